noncomputable def jX12_kernel_119 (g : ps_G) (x0 : Nat) : Option (ps_G) := Option.bind (q_ob 12 g x0) fun u18 => Option.bind (fX12_forget g x0) fun v19 => some v19
theorem pjX12_kernel_119 {d : Nat} {Q : ps_Rs → ps_G → Prop} {g : ps_G} {x0 : Nat} {r : ps_G} (h : jX12_kernel_119 g x0 = some r) (hk : Q (.inl none) r) : ps_At mX12_kernel (d + 1) 119 [(0, .ref x0)] [] g Q := by
  unfold jX12_kernel_119 at h
  refine sX12_kernel_119 ?_
  replace h := q_be h
  obtain ⟨u18, hv, h⟩ := h
  replace hv := q_ob_e hv
  obtain ⟨_, cu18⟩ := hv
  replace h := q_be h
  obtain ⟨v19, hv, h⟩ := h
  refine ⟨⟨some _, rfl⟩, ⟨_, cu18⟩, ?_⟩
  refine rX12_forget hv ?_
  cases h
  exact ⟨rfl, rfl, hk⟩
noncomputable def jX12_kernel_62 (g : ps_G) (x0 : Nat) (x1 : Int32) (x2 : Int32) (k0 : Int32) : Option (ps_G) := Option.bind (q_sI 12 0 g x0 (if k0 = 0 then (1 : Int32) else (0 : Int32))) fun g7 => Option.bind (q_fI 12 0 g7 x0) fun v8 => if v8 ≤ 0 then (if ¬ x1 = (9 : Int32) then (if ¬ x1 = (10 : Int32) then (Option.bind (q_fR 12 24 g7 x0) fun v15 => Option.bind (v15) fun a16 => Option.bind (q_wI g7 a16 x1 x2) fun g17 => jX12_kernel_119 g17 x0) else (Option.bind (q_sI 12 26 g7 x0 x2) fun g20 => jX12_kernel_119 g20 x0)) else (Option.bind (q_sI 12 25 g7 x0 x2) fun g23 => jX12_kernel_119 g23 x0)) else (some g7)
theorem pjX12_kernel_62 {d : Nat} {Q : ps_Rs → ps_G → Prop} {g : ps_G} {x0 : Nat} {x1 : Int32} {x2 : Int32} {k0 : Int32} {r : ps_G} (h : jX12_kernel_62 g x0 x1 x2 k0 = some r) (hk : Q (.inl none) r) : ps_At mX12_kernel (d + 1) 62 [(0, .ref x0), (1, .int x1), (2, .int x2)] [.int k0] g Q := by
  unfold jX12_kernel_62 at h
  refine sX12_kernel_62 ?_
  have kJ6 : ∀ w5 : Int32, w5 = (if k0 = 0 then (1 : Int32) else (0 : Int32)) → ps_At mX12_kernel (d + 1) 73 [(0, .ref x0), (1, .int x1), (2, .int x2)] [.int w5, .ref x0] g Q := by
    rintro _ rfl
    refine sX12_kernel_73 ?_
    replace h := q_be h
    obtain ⟨g7, hv, h⟩ := h
    replace hv := q_sI_e hv
    obtain ⟨_, cg7, dg7, yg7⟩ := hv
    replace h := q_be h
    obtain ⟨v8, hv, h⟩ := h
    replace hv := q_fI_e hv
    obtain ⟨_, cv8, dv8⟩ := hv
    refine ⟨_, cg7, dg7, rfl, rfl, _, yg7, ⟨some _, rfl⟩, _, _, cv8, dv8, ?_⟩
    refine And.intro (fun hc9 => ?_) (fun hc9 => ?_)
    · replace h := q_ifp (hc9) h
      refine sX12_kernel_84 ?_
      refine And.intro (fun hc10 => ?_) (fun hc10 => ?_)
      · replace h := q_ifp (hc10) h
        refine sX12_kernel_98 ?_
        refine And.intro (fun hc13 => ?_) (fun hc13 => ?_)
        · replace h := q_ifp (hc13) h
          refine sX12_kernel_112 ?_
          replace h := q_be h
          obtain ⟨v15, hv, h⟩ := h
          replace hv := q_fR_e hv
          obtain ⟨_, cv15, dv15⟩ := hv
          replace h := q_be h
          obtain ⟨a16, ea16, h⟩ := h
          subst ea16
          replace h := q_be h
          obtain ⟨g17, hv, h⟩ := h
          replace hv := q_wI_e hv
          obtain ⟨_, _, cg17, pg17, ig17, yg17⟩ := hv
          refine ⟨⟨some _, rfl⟩, _, _, cv15, dv15, _, _, cg17, pg17, ig17, _, yg17, ?_⟩
          exact ps_weak (pjX12_kernel_119 h hk) ⟨rfl, trivial⟩
        · replace h := q_ifn (hc13) h
          replace h := q_be h
          obtain ⟨g20, hv, h⟩ := h
          replace hv := q_sI_e hv
          obtain ⟨_, cg20, dg20, yg20⟩ := hv
          refine ⟨⟨some _, rfl⟩, _, cg20, dg20, rfl, rfl, _, yg20, ?_⟩
          exact ps_weak (pjX12_kernel_119 h hk) ⟨rfl, trivial⟩
      · replace h := q_ifn (hc10) h
        replace h := q_be h
        obtain ⟨g23, hv, h⟩ := h
        replace hv := q_sI_e hv
        obtain ⟨_, cg23, dg23, yg23⟩ := hv
        refine ⟨⟨some _, rfl⟩, _, cg23, dg23, rfl, rfl, _, yg23, ?_⟩
        exact ps_weak (pjX12_kernel_119 h hk) ⟨rfl, trivial⟩
    · replace h := q_ifn (hc9) h
      cases h
      exact ⟨rfl, rfl, hk⟩
  refine ⟨by decide, ⟨some _, rfl⟩, ?_⟩
  refine And.intro (fun hc4 => ?_) (fun hc4 => ?_)
  · refine sX12_kernel_72 ?_
    exact ps_weak (kJ6 _ (if_pos (hc4)).symm) ⟨rfl, rfl, rfl, trivial⟩
  · exact ps_weak (kJ6 _ (if_neg (hc4)).symm) ⟨rfl, rfl, rfl, trivial⟩
noncomputable def jX12_kernel_61 (g : ps_G) (x0 : Nat) (x1 : Int32) (x2 : Int32) : Option (ps_G) := jX12_kernel_62 g x0 x1 x2 (0 : Int32)
theorem pjX12_kernel_61 {d : Nat} {Q : ps_Rs → ps_G → Prop} {g : ps_G} {x0 : Nat} {x1 : Int32} {x2 : Int32} {r : ps_G} (h : jX12_kernel_61 g x0 x1 x2 = some r) (hk : Q (.inl none) r) : ps_At mX12_kernel (d + 1) 61 [(0, .ref x0), (1, .int x1), (2, .int x2)] [] g Q := by
  unfold jX12_kernel_61 at h
  refine sX12_kernel_61 ?_
  exact ps_weak (pjX12_kernel_62 h hk) ⟨rfl, rfl, rfl, trivial⟩
noncomputable def jX12_kernel_57 (g : ps_G) (x0 : Nat) (x1 : Int32) (x2 : Int32) : Option (ps_G) := jX12_kernel_62 g x0 x1 x2 (1 : Int32)
theorem pjX12_kernel_57 {d : Nat} {Q : ps_Rs → ps_G → Prop} {g : ps_G} {x0 : Nat} {x1 : Int32} {x2 : Int32} {r : ps_G} (h : jX12_kernel_57 g x0 x1 x2 = some r) (hk : Q (.inl none) r) : ps_At mX12_kernel (d + 1) 57 [(0, .ref x0), (1, .int x1), (2, .int x2)] [] g Q := by
  unfold jX12_kernel_57 at h
  refine sX12_kernel_57 ?_
  exact ps_weak (pjX12_kernel_62 h hk) ⟨rfl, rfl, rfl, trivial⟩
noncomputable def jX12_kernel_38 (g : ps_G) (x0 : Nat) (x1 : Int32) (x2 : Int32) : Option (ps_G) := if ¬ x1 = (10 : Int32) then (jX12_kernel_61 g x0 x1 x2) else (if (fX12_in x2 (-255 : Int32) (255 : Int32)) = 0 then (jX12_kernel_61 g x0 x1 x2) else (jX12_kernel_57 g x0 x1 x2))
theorem pjX12_kernel_38 {d : Nat} {Q : ps_Rs → ps_G → Prop} {g : ps_G} {x0 : Nat} {x1 : Int32} {x2 : Int32} {r : ps_G} (h : jX12_kernel_38 g x0 x1 x2 = some r) (hk : Q (.inl none) r) : ps_At mX12_kernel (d + 1) 38 [(0, .ref x0), (1, .int x1), (2, .int x2)] [] g Q := by
  unfold jX12_kernel_38 at h
  refine sX12_kernel_38 ?_
  refine And.intro (fun hc3 => ?_) (fun hc3 => ?_)
  · replace h := q_ifp (hc3) h
    exact ps_weak (pjX12_kernel_61 h hk) ⟨rfl, rfl, rfl, trivial⟩
  · replace h := q_ifn (hc3) h
    refine rX12_in rfl ?_
    refine And.intro (fun hc28 => ?_) (fun hc28 => ?_)
    · replace h := q_ifp (hc28) h
      exact ps_weak (pjX12_kernel_61 h hk) ⟨rfl, rfl, rfl, trivial⟩
    · replace h := q_ifn (hc28) h
      exact ps_weak (pjX12_kernel_57 h hk) ⟨rfl, rfl, rfl, trivial⟩
noncomputable def jX12_kernel_21 (g : ps_G) (x0 : Nat) (x1 : Int32) (x2 : Int32) : Option (ps_G) := if ¬ x1 = (9 : Int32) then (jX12_kernel_38 g x0 x1 x2) else (if ¬ (fX12_in x2 (1 : Int32) (1000 : Int32)) = 0 then (jX12_kernel_57 g x0 x1 x2) else (jX12_kernel_38 g x0 x1 x2))
theorem pjX12_kernel_21 {d : Nat} {Q : ps_Rs → ps_G → Prop} {g : ps_G} {x0 : Nat} {x1 : Int32} {x2 : Int32} {r : ps_G} (h : jX12_kernel_21 g x0 x1 x2 = some r) (hk : Q (.inl none) r) : ps_At mX12_kernel (d + 1) 21 [(0, .ref x0), (1, .int x1), (2, .int x2)] [] g Q := by
  unfold jX12_kernel_21 at h
  refine sX12_kernel_21 ?_
  refine And.intro (fun hc2 => ?_) (fun hc2 => ?_)
  · replace h := q_ifp (hc2) h
    exact ps_weak (pjX12_kernel_38 h hk) ⟨rfl, rfl, rfl, trivial⟩
  · replace h := q_ifn (hc2) h
    refine rX12_in rfl ?_
    refine And.intro (fun hc33 => ?_) (fun hc33 => ?_)
    · replace h := q_ifp (hc33) h
      exact ps_weak (pjX12_kernel_57 h hk) ⟨rfl, rfl, rfl, trivial⟩
    · replace h := q_ifn (hc33) h
      exact ps_weak (pjX12_kernel_38 h hk) ⟨rfl, rfl, rfl, trivial⟩
noncomputable def fX12_kernel (g : ps_G) (x0 : Nat) (x1 : Int32) (x2 : Int32) : Option (ps_G) := if (fX12_in x1 (0 : Int32) (8 : Int32)) = 0 then (jX12_kernel_21 g x0 x1 x2) else (if ¬ (fX12_in x2 (-100 : Int32) (100 : Int32)) = 0 then (jX12_kernel_57 g x0 x1 x2) else (jX12_kernel_21 g x0 x1 x2))
theorem rX12_kernel {d : Nat} {Q : ps_Rs → ps_G → Prop} {g : ps_G} {x0 : Nat} {x1 : Int32} {x2 : Int32} {r : ps_G} (h : fX12_kernel g x0 x1 x2 = some r) (hk : Q (.inl none) r) : ps_Ok mX12_kernel (d + 1) [.ref x0, .int x1, .int x2] g Q := by
  unfold fX12_kernel at h
  refine sX12_kernel_0 ?_
  refine rX12_in rfl ?_
  refine And.intro (fun hc1 => ?_) (fun hc1 => ?_)
  · replace h := q_ifp (hc1) h
    exact ps_weak (pjX12_kernel_21 h hk) ⟨rfl, rfl, rfl, trivial⟩
  · replace h := q_ifn (hc1) h
    refine rX12_in rfl ?_
    refine And.intro (fun hc38 => ?_) (fun hc38 => ?_)
    · replace h := q_ifp (hc38) h
      exact ps_weak (pjX12_kernel_57 h hk) ⟨rfl, rfl, rfl, trivial⟩
    · replace h := q_ifn (hc38) h
      exact ps_weak (pjX12_kernel_21 h hk) ⟨rfl, rfl, rfl, trivial⟩
noncomputable def bX12_curve_106 (g : ps_G) (x0 : Nat) (x3 : Int32) (x4 : Int32) (x6 : Int32) (x7 : Int32) : Option ((Int32) ⊕ (Int32)) := Option.bind (q_fR 12 28 g x0) fun v9 => Option.bind (v9) fun a10 => Option.bind (q_aI g a10 x6) fun v11 => if v11 ≤ x7 then (some (.inr x7)) else (Option.bind (q_fR 12 29 g x0) fun v14 => Option.bind (v14) fun a15 => Option.bind (q_aI g a15 (((8 : Int32) * x6) + x7)) fun v16 => if x3 ≤ v16 then (some (.inr x7)) else (some (.inl (x7 + (1 : Int32)))))
theorem pbX12_curve_106 {d : Nat} {Q : ps_Rs → ps_G → Prop} {g : ps_G} {x0 : Nat} {x3 : Int32} {x4 : Int32} {x6 : Int32} {x7 : Int32} {x : (Int32) ⊕ (Int32)} (h : bX12_curve_106 g x0 x3 x4 x6 x7 = some x) (hh : ∀ s' : Int32, x = .inl s' → ps_At mX12_curve (d + 1) 106 [(0, .ref x0), (3, .int x3), (4, .int x4), (6, .int x6), (7, .int s')] [] g Q) (he : ∀ r' : Int32, x = .inr r' → ps_At mX12_curve (d + 1) 141 [(0, .ref x0), (3, .int x3), (4, .int x4), (6, .int x6), (7, .int r')] [] g Q) : ps_At mX12_curve (d + 1) 106 [(0, .ref x0), (3, .int x3), (4, .int x4), (6, .int x6), (7, .int x7)] [] g Q := by
  unfold bX12_curve_106 at h
  refine sX12_curve_106 ?_
  replace h := q_be h
  obtain ⟨v9, hv, h⟩ := h
  replace hv := q_fR_e hv
  obtain ⟨_, cv9, dv9⟩ := hv
  replace h := q_be h
  obtain ⟨a10, ea10, h⟩ := h
  subst ea10
  replace h := q_be h
  obtain ⟨v11, hv, h⟩ := h
  replace hv := q_aI_e hv
  obtain ⟨_, _, cv11, iv11, yv11⟩ := hv
  refine ⟨⟨some _, rfl⟩, _, _, cv9, dv9, _, _, cv11, iv11, _, yv11, ?_⟩
  refine And.intro (fun hc12 => ?_) (fun hc12 => ?_)
  · replace h := q_ifp (hc12) h
    exact ps_weak (he x7 (Option.some.inj h).symm) ⟨rfl, rfl, rfl, rfl, rfl, trivial⟩
  · replace h := q_ifn (hc12) h
    replace h := q_be h
    obtain ⟨v14, hv, h⟩ := h
    replace hv := q_fR_e hv
    obtain ⟨_, cv14, dv14⟩ := hv
    replace h := q_be h
    obtain ⟨a15, ea15, h⟩ := h
    subst ea15
    replace h := q_be h
    obtain ⟨v16, hv, h⟩ := h
    replace hv := q_aI_e hv
    obtain ⟨_, _, cv16, iv16, yv16⟩ := hv
    refine ⟨⟨some _, rfl⟩, _, _, cv14, dv14, _, _, cv16, iv16, _, yv16, ?_⟩
    refine And.intro (fun hc17 => ?_) (fun hc17 => ?_)
    · replace h := q_ifp (hc17) h
      exact ps_weak (he x7 (Option.some.inj h).symm) ⟨rfl, rfl, rfl, rfl, rfl, trivial⟩
    · replace h := q_ifn (hc17) h
      refine ⟨by decide, ?_⟩
      exact ps_weak (hh (x7 + (1 : Int32)) (Option.some.inj h).symm) ⟨rfl, rfl, rfl, rfl, rfl, trivial⟩
noncomputable def jX12_curve_306 (g : ps_G) (x0 : Nat) (x3 : Int32) (x4 : Int32) (x6 : Int32) (x7 : Int32) : Option (Int32 × ps_G) := Option.bind (q_fR 12 29 g x0) fun v33 => Option.bind (v33) fun a34 => Option.bind (q_wI g a34 (((8 : Int32) * x6) + x7) x3) fun g35 => Option.bind (q_fR 12 30 g35 x0) fun v36 => Option.bind (v36) fun a37 => Option.bind (q_wI g35 a37 (((8 : Int32) * x6) + x7) x4) fun g38 => Option.bind (q_ob 12 g38 x0) fun u39 => Option.bind (fX12_forget g38 x0) fun v40 => Option.bind (q_fR 12 28 v40 x0) fun v41 => Option.bind (v41) fun a42 => Option.bind (q_aI v40 a42 x6) fun v43 => some (v43, v40)
theorem pjX12_curve_306 {d : Nat} {Q : ps_Rs → ps_G → Prop} {g : ps_G} {x0 : Nat} {x3 : Int32} {x4 : Int32} {x6 : Int32} {x7 : Int32} {r : Int32 × ps_G} (h : jX12_curve_306 g x0 x3 x4 x6 x7 = some r) (hk : Q (.inl (some (.int r.1))) r.2) : ps_At mX12_curve (d + 1) 306 [(0, .ref x0), (3, .int x3), (4, .int x4), (6, .int x6), (7, .int x7)] [] g Q := by
  unfold jX12_curve_306 at h
  refine sX12_curve_306 ?_
  replace h := q_be h
  obtain ⟨v33, hv, h⟩ := h
  replace hv := q_fR_e hv
  obtain ⟨_, cv33, dv33⟩ := hv
  replace h := q_be h
  obtain ⟨a34, ea34, h⟩ := h
  subst ea34
  replace h := q_be h
  obtain ⟨g35, hv, h⟩ := h
  replace hv := q_wI_e hv
  obtain ⟨_, _, cg35, pg35, ig35, yg35⟩ := hv
  replace h := q_be h
  obtain ⟨v36, hv, h⟩ := h
  replace hv := q_fR_e hv
  obtain ⟨_, cv36, dv36⟩ := hv
  replace h := q_be h
  obtain ⟨a37, ea37, h⟩ := h
  subst ea37
  replace h := q_be h
  obtain ⟨g38, hv, h⟩ := h
  replace hv := q_wI_e hv
  obtain ⟨_, _, cg38, pg38, ig38, yg38⟩ := hv
  replace h := q_be h
  obtain ⟨u39, hv, h⟩ := h
  replace hv := q_ob_e hv
  obtain ⟨_, cu39⟩ := hv
  replace h := q_be h
  obtain ⟨v40, hv, h⟩ := h
  refine ⟨⟨some _, rfl⟩, _, _, cv33, dv33, _, _, cg35, pg35, ig35, _, yg35, ⟨some _, rfl⟩, _, _, cv36, dv36, _, _, cg38, pg38, ig38, _, yg38, ⟨some _, rfl⟩, ⟨_, cu39⟩, ?_⟩
  refine rX12_forget hv ?_
  replace h := q_be h
  obtain ⟨v41, hv, h⟩ := h
  replace hv := q_fR_e hv
  obtain ⟨_, cv41, dv41⟩ := hv
  replace h := q_be h
  obtain ⟨a42, ea42, h⟩ := h
  subst ea42
  replace h := q_be h
  obtain ⟨v43, hv, h⟩ := h
  replace hv := q_aI_e hv
  obtain ⟨_, _, cv43, iv43, yv43⟩ := hv
  cases h
  exact ⟨⟨some _, rfl⟩, _, _, cv41, dv41, _, _, cv43, iv43, _, yv43, rfl, hk⟩
noncomputable def bX12_curve_226 (x0 : Nat) (x3 : Int32) (x4 : Int32) (x6 : Int32) (x7 : Int32) (x9 : Int32) (g : ps_G) : Option ((Int32 × ps_G) ⊕ (ps_G)) := if x9 ≤ x7 then (some (.inr g)) else (Option.bind (q_fR 12 29 g x0) fun v49 => Option.bind (v49) fun a50 => Option.bind (q_fR 12 29 g x0) fun v51 => Option.bind (v51) fun a52 => Option.bind (q_aI g a52 ((((8 : Int32) * x6) + x9) - (1 : Int32))) fun v53 => Option.bind (q_wI g a50 (((8 : Int32) * x6) + x9) v53) fun g54 => Option.bind (q_fR 12 30 g54 x0) fun v55 => Option.bind (v55) fun a56 => Option.bind (q_fR 12 30 g54 x0) fun v57 => Option.bind (v57) fun a58 => Option.bind (q_aI g54 a58 ((((8 : Int32) * x6) + x9) - (1 : Int32))) fun v59 => Option.bind (q_wI g54 a56 (((8 : Int32) * x6) + x9) v59) fun g60 => some (.inl (x9 + (-1 : Int32), g60)))
theorem pbX12_curve_226 {d : Nat} {Q : ps_Rs → ps_G → Prop}  {x0 : Nat} {x3 : Int32} {x4 : Int32} {x6 : Int32} {x7 : Int32} {x9 : Int32} {g : ps_G} {x : (Int32 × ps_G) ⊕ (ps_G)} (h : bX12_curve_226 x0 x3 x4 x6 x7 x9 g = some x) (hh : ∀ s' : Int32 × ps_G, x = .inl s' → ps_At mX12_curve (d + 1) 226 [(0, .ref x0), (3, .int x3), (4, .int x4), (6, .int x6), (7, .int x7), (9, .int s'.1)] [] s'.2 Q) (he : ∀ r' : ps_G, x = .inr r' → ps_At mX12_curve (d + 1) 295 [(0, .ref x0), (3, .int x3), (4, .int x4), (6, .int x6), (7, .int x7)] [] r' Q) : ps_At mX12_curve (d + 1) 226 [(0, .ref x0), (3, .int x3), (4, .int x4), (6, .int x6), (7, .int x7), (9, .int x9)] [] g Q := by
  unfold bX12_curve_226 at h
  refine sX12_curve_226 ?_
  refine And.intro (fun hc47 => ?_) (fun hc47 => ?_)
  · replace h := q_ifp (hc47) h
    exact ps_weak (he g (Option.some.inj h).symm) ⟨rfl, rfl, rfl, rfl, rfl, trivial⟩
  · replace h := q_ifn (hc47) h
    replace h := q_be h
    obtain ⟨v49, hv, h⟩ := h
    replace hv := q_fR_e hv
    obtain ⟨_, cv49, dv49⟩ := hv
    replace h := q_be h
    obtain ⟨a50, ea50, h⟩ := h
    subst ea50
    replace h := q_be h
    obtain ⟨v51, hv, h⟩ := h
    replace hv := q_fR_e hv
    obtain ⟨_, cv51, dv51⟩ := hv
    replace h := q_be h
    obtain ⟨a52, ea52, h⟩ := h
    subst ea52
    replace h := q_be h
    obtain ⟨v53, hv, h⟩ := h
    replace hv := q_aI_e hv
    obtain ⟨_, _, cv53, iv53, yv53⟩ := hv
    replace h := q_be h
    obtain ⟨g54, hv, h⟩ := h
    replace hv := q_wI_e hv
    obtain ⟨_, _, cg54, pg54, ig54, yg54⟩ := hv
    replace h := q_be h
    obtain ⟨v55, hv, h⟩ := h
    replace hv := q_fR_e hv
    obtain ⟨_, cv55, dv55⟩ := hv
    replace h := q_be h
    obtain ⟨a56, ea56, h⟩ := h
    subst ea56
    replace h := q_be h
    obtain ⟨v57, hv, h⟩ := h
    replace hv := q_fR_e hv
    obtain ⟨_, cv57, dv57⟩ := hv
    replace h := q_be h
    obtain ⟨a58, ea58, h⟩ := h
    subst ea58
    replace h := q_be h
    obtain ⟨v59, hv, h⟩ := h
    replace hv := q_aI_e hv
    obtain ⟨_, _, cv59, iv59, yv59⟩ := hv
    replace h := q_be h
    obtain ⟨g60, hv, h⟩ := h
    replace hv := q_wI_e hv
    obtain ⟨_, _, cg60, pg60, ig60, yg60⟩ := hv
    refine ⟨⟨some _, rfl⟩, _, _, cv49, dv49, ⟨some _, rfl⟩, _, _, cv51, dv51, _, _, cv53, iv53, _, yv53, _, _, cg54, pg54, ig54, _, yg54, ⟨some _, rfl⟩, _, _, cv55, dv55, ⟨some _, rfl⟩, _, _, cv57, dv57, _, _, cv59, iv59, _, yv59, _, _, cg60, pg60, ig60, _, yg60, ?_⟩
    refine ⟨by decide, ?_⟩
    exact ps_weak (hh (x9 + (-1 : Int32), g60) (Option.some.inj h).symm) ⟨rfl, rfl, rfl, rfl, rfl, rfl, trivial⟩
noncomputable def jX12_curve_200 (g : ps_G) (x0 : Nat) (x3 : Int32) (x4 : Int32) (x6 : Int32) (x7 : Int32) (x8 : Int32) (k0 : Nat) (k1 : Int32) : Option (Int32 × ps_G) := Option.bind (q_sI 12 0 g k0 k1) fun g28 => Option.bind (q_fI 12 0 g28 x0) fun v29 => if v29 ≤ 0 then (if ¬ x8 = 0 then (jX12_curve_306 g28 x0 x3 x4 x6 x7) else (Option.bind (q_fR 12 28 g28 x0) fun v44 => Option.bind (v44) fun a45 => Option.bind (q_aI g28 a45 x6) fun v46 => Option.bind (q_lp (fun s => bX12_curve_226 x0 x3 x4 x6 x7 s.1 s.2) (v46, g28)) fun s63 => Option.bind (q_fR 12 28 s63 x0) fun v64 => Option.bind (v64) fun a65 => Option.bind (q_aI s63 a65 x6) fun v66 => Option.bind (q_wI s63 a65 x6 (v66 + (1 : Int32))) fun g67 => jX12_curve_306 g67 x0 x3 x4 x6 x7)) else (some ((0 : Int32), g28))
theorem pjX12_curve_200 {d : Nat} {Q : ps_Rs → ps_G → Prop} {g : ps_G} {x0 : Nat} {x3 : Int32} {x4 : Int32} {x6 : Int32} {x7 : Int32} {x8 : Int32} {k0 : Nat} {k1 : Int32} {r : Int32 × ps_G} (h : jX12_curve_200 g x0 x3 x4 x6 x7 x8 k0 k1 = some r) (hk : Q (.inl (some (.int r.1))) r.2) : ps_At mX12_curve (d + 1) 200 [(0, .ref x0), (3, .int x3), (4, .int x4), (6, .int x6), (7, .int x7), (8, .int x8)] [.int k1, .ref k0] g Q := by
  unfold jX12_curve_200 at h
  refine sX12_curve_200 ?_
  replace h := q_be h
  obtain ⟨g28, hv, h⟩ := h
  replace hv := q_sI_e hv
  obtain ⟨_, cg28, dg28, yg28⟩ := hv
  replace h := q_be h
  obtain ⟨v29, hv, h⟩ := h
  replace hv := q_fI_e hv
  obtain ⟨_, cv29, dv29⟩ := hv
  refine ⟨_, cg28, dg28, rfl, rfl, _, yg28, ⟨some _, rfl⟩, _, _, cv29, dv29, ?_⟩
  refine And.intro (fun hc30 => ?_) (fun hc30 => ?_)
  · replace h := q_ifp (hc30) h
    refine sX12_curve_212 ?_
    refine And.intro (fun hc31 => ?_) (fun hc31 => ?_)
    · replace h := q_ifp (hc31) h
      exact ps_weak (pjX12_curve_306 h hk) ⟨rfl, rfl, rfl, rfl, rfl, trivial⟩
    · replace h := q_ifn (hc31) h
      replace h := q_be h
      obtain ⟨v44, hv, h⟩ := h
      replace hv := q_fR_e hv
      obtain ⟨_, cv44, dv44⟩ := hv
      replace h := q_be h
      obtain ⟨a45, ea45, h⟩ := h
      subst ea45
      replace h := q_be h
      obtain ⟨v46, hv, h⟩ := h
      replace hv := q_aI_e hv
      obtain ⟨_, _, cv46, iv46, yv46⟩ := hv
      refine ⟨⟨some _, rfl⟩, _, _, cv44, dv44, _, _, cv46, iv46, _, yv46, by decide, ?_⟩
      replace h := q_be h
      obtain ⟨s63, hl, h⟩ := h
      refine ps_weak (q_lp_ok hl (fun s => ps_At mX12_curve (d + 1) 226 [(0, .ref x0), (3, .int x3), (4, .int x4), (6, .int x6), (7, .int x7), (9, .int s.1)] [] s.2 Q) (fun r => ps_At mX12_curve (d + 1) 295 [(0, .ref x0), (3, .int x3), (4, .int x4), (6, .int x6), (7, .int x7)] [] r Q) (fun s x hb hh he => pbX12_curve_226 hb hh he) ?_) ⟨rfl, rfl, rfl, rfl, rfl, rfl, trivial⟩
      refine (?_ : ps_At mX12_curve (d + 1) 295 [(0, .ref x0), (3, .int x3), (4, .int x4), (6, .int x6), (7, .int x7)] [] s63 Q)
      refine sX12_curve_295 ?_
      replace h := q_be h
      obtain ⟨v64, hv, h⟩ := h
      replace hv := q_fR_e hv
      obtain ⟨_, cv64, dv64⟩ := hv
      replace h := q_be h
      obtain ⟨a65, ea65, h⟩ := h
      subst ea65
      replace h := q_be h
      obtain ⟨v66, hv, h⟩ := h
      replace hv := q_aI_e hv
      obtain ⟨_, _, cv66, iv66, yv66⟩ := hv
      replace h := q_be h
      obtain ⟨g67, hv, h⟩ := h
      replace hv := q_wI_e hv
      obtain ⟨_, _, cg67, pg67, ig67, yg67⟩ := hv
      refine ⟨⟨some _, rfl⟩, _, _, cv64, dv64, rfl, rfl, _, _, cv66, iv66, _, yv66, _, _, cg67, pg67, ig67, _, yg67, ?_⟩
      exact ps_weak (pjX12_curve_306 h hk) ⟨rfl, rfl, rfl, rfl, rfl, trivial⟩
  · replace h := q_ifn (hc30) h
    cases h
    exact ⟨rfl, hk⟩
noncomputable def jX12_curve_199 (g : ps_G) (x0 : Nat) (x3 : Int32) (x4 : Int32) (x6 : Int32) (x7 : Int32) (x8 : Int32) (k0 : Nat) : Option (Int32 × ps_G) := jX12_curve_200 g x0 x3 x4 x6 x7 x8 k0 (0 : Int32)
theorem pjX12_curve_199 {d : Nat} {Q : ps_Rs → ps_G → Prop} {g : ps_G} {x0 : Nat} {x3 : Int32} {x4 : Int32} {x6 : Int32} {x7 : Int32} {x8 : Int32} {k0 : Nat} {r : Int32 × ps_G} (h : jX12_curve_199 g x0 x3 x4 x6 x7 x8 k0 = some r) (hk : Q (.inl (some (.int r.1))) r.2) : ps_At mX12_curve (d + 1) 199 [(0, .ref x0), (3, .int x3), (4, .int x4), (6, .int x6), (7, .int x7), (8, .int x8)] [.ref k0] g Q := by
  unfold jX12_curve_199 at h
  refine sX12_curve_199 ?_
  exact ps_weak (pjX12_curve_200 h hk) ⟨rfl, rfl, rfl, rfl, rfl, rfl, trivial⟩
noncomputable def jX12_curve_175 (g : ps_G) (x0 : Nat) (x3 : Int32) (x4 : Int32) (x6 : Int32) (x7 : Int32) (k0 : Int32) : Option (Int32 × ps_G) := if ¬ k0 = 0 then (jX12_curve_199 g x0 x3 x4 x6 x7 k0 x0) else (Option.bind (q_fR 12 28 g x0) fun v72 => Option.bind (v72) fun a73 => Option.bind (q_aI g a73 x6) fun v74 => if ¬ v74 = (8 : Int32) then (jX12_curve_199 g x0 x3 x4 x6 x7 k0 x0) else (jX12_curve_200 g x0 x3 x4 x6 x7 k0 x0 (2 : Int32)))
theorem pjX12_curve_175 {d : Nat} {Q : ps_Rs → ps_G → Prop} {g : ps_G} {x0 : Nat} {x3 : Int32} {x4 : Int32} {x6 : Int32} {x7 : Int32} {k0 : Int32} {r : Int32 × ps_G} (h : jX12_curve_175 g x0 x3 x4 x6 x7 k0 = some r) (hk : Q (.inl (some (.int r.1))) r.2) : ps_At mX12_curve (d + 1) 175 [(0, .ref x0), (3, .int x3), (4, .int x4), (6, .int x6), (7, .int x7)] [.int k0] g Q := by
  unfold jX12_curve_175 at h
  refine sX12_curve_175 ?_
  refine ⟨by decide, ⟨some _, rfl⟩, ?_⟩
  refine And.intro (fun hc27 => ?_) (fun hc27 => ?_)
  · replace h := q_ifp (hc27) h
    exact ps_weak (pjX12_curve_199 h hk) ⟨rfl, rfl, rfl, rfl, rfl, rfl, trivial⟩
  · replace h := q_ifn (hc27) h
    replace h := q_be h
    obtain ⟨v72, hv, h⟩ := h
    replace hv := q_fR_e hv
    obtain ⟨_, cv72, dv72⟩ := hv
    replace h := q_be h
    obtain ⟨a73, ea73, h⟩ := h
    subst ea73
    replace h := q_be h
    obtain ⟨v74, hv, h⟩ := h
    replace hv := q_aI_e hv
    obtain ⟨_, _, cv74, iv74, yv74⟩ := hv
    refine ⟨⟨some _, rfl⟩, _, _, cv72, dv72, _, _, cv74, iv74, _, yv74, ?_⟩
    refine And.intro (fun hc75 => ?_) (fun hc75 => ?_)
    · replace h := q_ifp (hc75) h
      exact ps_weak (pjX12_curve_199 h hk) ⟨rfl, rfl, rfl, rfl, rfl, rfl, trivial⟩
    · replace h := q_ifn (hc75) h
      exact ps_weak (pjX12_curve_200 h hk) ⟨rfl, rfl, rfl, rfl, rfl, rfl, trivial⟩
noncomputable def jX12_curve_174 (g : ps_G) (x0 : Nat) (x3 : Int32) (x4 : Int32) (x6 : Int32) (x7 : Int32) : Option (Int32 × ps_G) := jX12_curve_175 g x0 x3 x4 x6 x7 (0 : Int32)
theorem pjX12_curve_174 {d : Nat} {Q : ps_Rs → ps_G → Prop} {g : ps_G} {x0 : Nat} {x3 : Int32} {x4 : Int32} {x6 : Int32} {x7 : Int32} {r : Int32 × ps_G} (h : jX12_curve_174 g x0 x3 x4 x6 x7 = some r) (hk : Q (.inl (some (.int r.1))) r.2) : ps_At mX12_curve (d + 1) 174 [(0, .ref x0), (3, .int x3), (4, .int x4), (6, .int x6), (7, .int x7)] [] g Q := by
  unfold jX12_curve_174 at h
  refine sX12_curve_174 ?_
  exact ps_weak (pjX12_curve_175 h hk) ⟨rfl, rfl, rfl, rfl, rfl, trivial⟩
noncomputable def jX12_curve_141 (g : ps_G) (x0 : Nat) (x3 : Int32) (x4 : Int32) (x6 : Int32) (x7 : Int32) : Option (Int32 × ps_G) := Option.bind (q_fR 12 28 g x0) fun v23 => Option.bind (v23) fun a24 => Option.bind (q_aI g a24 x6) fun v25 => if v25 ≤ x7 then (jX12_curve_174 g x0 x3 x4 x6 x7) else (Option.bind (q_fR 12 29 g x0) fun v80 => Option.bind (v80) fun a81 => Option.bind (q_aI g a81 (((8 : Int32) * x6) + x7)) fun v82 => if ¬ v82 = x3 then (jX12_curve_174 g x0 x3 x4 x6 x7) else (jX12_curve_175 g x0 x3 x4 x6 x7 (1 : Int32)))
theorem pjX12_curve_141 {d : Nat} {Q : ps_Rs → ps_G → Prop} {g : ps_G} {x0 : Nat} {x3 : Int32} {x4 : Int32} {x6 : Int32} {x7 : Int32} {r : Int32 × ps_G} (h : jX12_curve_141 g x0 x3 x4 x6 x7 = some r) (hk : Q (.inl (some (.int r.1))) r.2) : ps_At mX12_curve (d + 1) 141 [(0, .ref x0), (3, .int x3), (4, .int x4), (6, .int x6), (7, .int x7)] [] g Q := by
  unfold jX12_curve_141 at h
  refine sX12_curve_141 ?_
  replace h := q_be h
  obtain ⟨v23, hv, h⟩ := h
  replace hv := q_fR_e hv
  obtain ⟨_, cv23, dv23⟩ := hv
  replace h := q_be h
  obtain ⟨a24, ea24, h⟩ := h
  subst ea24
  replace h := q_be h
  obtain ⟨v25, hv, h⟩ := h
  replace hv := q_aI_e hv
  obtain ⟨_, _, cv25, iv25, yv25⟩ := hv
  refine ⟨⟨some _, rfl⟩, _, _, cv23, dv23, _, _, cv25, iv25, _, yv25, ?_⟩
  refine And.intro (fun hc26 => ?_) (fun hc26 => ?_)
  · replace h := q_ifp (hc26) h
    exact ps_weak (pjX12_curve_174 h hk) ⟨rfl, rfl, rfl, rfl, rfl, trivial⟩
  · replace h := q_ifn (hc26) h
    replace h := q_be h
    obtain ⟨v80, hv, h⟩ := h
    replace hv := q_fR_e hv
    obtain ⟨_, cv80, dv80⟩ := hv
    replace h := q_be h
    obtain ⟨a81, ea81, h⟩ := h
    subst ea81
    replace h := q_be h
    obtain ⟨v82, hv, h⟩ := h
    replace hv := q_aI_e hv
    obtain ⟨_, _, cv82, iv82, yv82⟩ := hv
    refine ⟨⟨some _, rfl⟩, _, _, cv80, dv80, _, _, cv82, iv82, _, yv82, ?_⟩
    refine And.intro (fun hc83 => ?_) (fun hc83 => ?_)
    · replace h := q_ifp (hc83) h
      exact ps_weak (pjX12_curve_174 h hk) ⟨rfl, rfl, rfl, rfl, rfl, trivial⟩
    · replace h := q_ifn (hc83) h
      exact ps_weak (pjX12_curve_175 h hk) ⟨rfl, rfl, rfl, rfl, rfl, trivial⟩
noncomputable def jX12_curve_52 (g : ps_G) (x0 : Nat) (x1 : Int32) (x2 : Int32) (x3 : Int32) (x4 : Int32) (k0 : Int32) : Option (Int32 × ps_G) := Option.bind (q_sI 12 0 g x0 (if k0 = 0 then (1 : Int32) else (0 : Int32))) fun g5 => Option.bind (q_fI 12 0 g5 x0) fun v6 => if v6 ≤ 0 then (if ¬ x3 = (-1 : Int32) then (Option.bind (q_lp (fun s => bX12_curve_106 g5 x0 x3 x4 (((4 : Int32) * x1) + x2) s) (0 : Int32)) fun s22 => jX12_curve_141 g5 x0 x3 x4 (((4 : Int32) * x1) + x2) s22) else (Option.bind (q_fR 12 28 g5 x0) fun v88 => Option.bind (v88) fun a89 => Option.bind (q_wI g5 a89 (((4 : Int32) * x1) + x2) (0 : Int32)) fun g90 => Option.bind (q_ob 12 g90 x0) fun u91 => Option.bind (fX12_forget g90 x0) fun v92 => some ((0 : Int32), v92))) else (some ((0 : Int32), g5))
theorem pjX12_curve_52 {d : Nat} {Q : ps_Rs → ps_G → Prop} {g : ps_G} {x0 : Nat} {x1 : Int32} {x2 : Int32} {x3 : Int32} {x4 : Int32} {k0 : Int32} {r : Int32 × ps_G} (h : jX12_curve_52 g x0 x1 x2 x3 x4 k0 = some r) (hk : Q (.inl (some (.int r.1))) r.2) : ps_At mX12_curve (d + 1) 52 [(0, .ref x0), (1, .int x1), (2, .int x2), (3, .int x3), (4, .int x4)] [.int k0] g Q := by
  unfold jX12_curve_52 at h
  refine sX12_curve_52 ?_
  have kJ4 : ∀ w3 : Int32, w3 = (if k0 = 0 then (1 : Int32) else (0 : Int32)) → ps_At mX12_curve (d + 1) 65 [(0, .ref x0), (1, .int x1), (2, .int x2), (3, .int x3), (4, .int x4)] [.int w3, .ref x0] g Q := by
    rintro _ rfl
    refine sX12_curve_65 ?_
    replace h := q_be h
    obtain ⟨g5, hv, h⟩ := h
    replace hv := q_sI_e hv
    obtain ⟨_, cg5, dg5, yg5⟩ := hv
    replace h := q_be h
    obtain ⟨v6, hv, h⟩ := h
    replace hv := q_fI_e hv
    obtain ⟨_, cv6, dv6⟩ := hv
    refine ⟨_, cg5, dg5, rfl, rfl, _, yg5, ⟨some _, rfl⟩, _, _, cv6, dv6, ?_⟩
    refine And.intro (fun hc7 => ?_) (fun hc7 => ?_)
    · replace h := q_ifp (hc7) h
      refine sX12_curve_77 ?_
      refine ⟨by decide, ?_⟩
      refine And.intro (fun hc8 => ?_) (fun hc8 => ?_)
      · replace h := q_ifp (hc8) h
        refine sX12_curve_103 ?_
        refine ⟨by decide, ?_⟩
        replace h := q_be h
        obtain ⟨s22, hl, h⟩ := h
        refine ps_weak (q_lp_ok hl (fun s => ps_At mX12_curve (d + 1) 106 [(0, .ref x0), (3, .int x3), (4, .int x4), (6, .int (((4 : Int32) * x1) + x2)), (7, .int s)] [] g5 Q) (fun r => ps_At mX12_curve (d + 1) 141 [(0, .ref x0), (3, .int x3), (4, .int x4), (6, .int (((4 : Int32) * x1) + x2)), (7, .int r)] [] g5 Q) (fun s x hb hh he => pbX12_curve_106 hb hh he) ?_) ⟨rfl, rfl, rfl, rfl, rfl, trivial⟩
        refine (?_ : ps_At mX12_curve (d + 1) 141 [(0, .ref x0), (3, .int x3), (4, .int x4), (6, .int (((4 : Int32) * x1) + x2)), (7, .int s22)] [] g5 Q)
        exact ps_weak (pjX12_curve_141 h hk) ⟨rfl, rfl, rfl, rfl, rfl, trivial⟩
      · replace h := q_ifn (hc8) h
        replace h := q_be h
        obtain ⟨v88, hv, h⟩ := h
        replace hv := q_fR_e hv
        obtain ⟨_, cv88, dv88⟩ := hv
        replace h := q_be h
        obtain ⟨a89, ea89, h⟩ := h
        subst ea89
        replace h := q_be h
        obtain ⟨g90, hv, h⟩ := h
        replace hv := q_wI_e hv
        obtain ⟨_, _, cg90, pg90, ig90, yg90⟩ := hv
        replace h := q_be h
        obtain ⟨u91, hv, h⟩ := h
        replace hv := q_ob_e hv
        obtain ⟨_, cu91⟩ := hv
        replace h := q_be h
        obtain ⟨v92, hv, h⟩ := h
        refine ⟨⟨some _, rfl⟩, _, _, cv88, dv88, _, _, cg90, pg90, ig90, _, yg90, ⟨some _, rfl⟩, ⟨_, cu91⟩, ?_⟩
        refine rX12_forget hv ?_
        cases h
        exact ⟨rfl, hk⟩
    · replace h := q_ifn (hc7) h
      cases h
      exact ⟨rfl, hk⟩
  refine ⟨by decide, ⟨some _, rfl⟩, ?_⟩
  refine And.intro (fun hc2 => ?_) (fun hc2 => ?_)
  · refine sX12_curve_64 ?_
    exact ps_weak (kJ4 _ (if_pos (hc2)).symm) ⟨rfl, rfl, rfl, rfl, rfl, trivial⟩
  · exact ps_weak (kJ4 _ (if_neg (hc2)).symm) ⟨rfl, rfl, rfl, rfl, rfl, trivial⟩
noncomputable def jX12_curve_51 (g : ps_G) (x0 : Nat) (x1 : Int32) (x2 : Int32) (x3 : Int32) (x4 : Int32) : Option (Int32 × ps_G) := jX12_curve_52 g x0 x1 x2 x3 x4 (0 : Int32)
theorem pjX12_curve_51 {d : Nat} {Q : ps_Rs → ps_G → Prop} {g : ps_G} {x0 : Nat} {x1 : Int32} {x2 : Int32} {x3 : Int32} {x4 : Int32} {r : Int32 × ps_G} (h : jX12_curve_51 g x0 x1 x2 x3 x4 = some r) (hk : Q (.inl (some (.int r.1))) r.2) : ps_At mX12_curve (d + 1) 51 [(0, .ref x0), (1, .int x1), (2, .int x2), (3, .int x3), (4, .int x4)] [] g Q := by
  unfold jX12_curve_51 at h
  refine sX12_curve_51 ?_
  exact ps_weak (pjX12_curve_52 h hk) ⟨rfl, rfl, rfl, rfl, rfl, trivial⟩
noncomputable def jX12_curve_47 (g : ps_G) (x0 : Nat) (x1 : Int32) (x2 : Int32) (x3 : Int32) (x4 : Int32) : Option (Int32 × ps_G) := jX12_curve_52 g x0 x1 x2 x3 x4 (1 : Int32)
theorem pjX12_curve_47 {d : Nat} {Q : ps_Rs → ps_G → Prop} {g : ps_G} {x0 : Nat} {x1 : Int32} {x2 : Int32} {x3 : Int32} {x4 : Int32} {r : Int32 × ps_G} (h : jX12_curve_47 g x0 x1 x2 x3 x4 = some r) (hk : Q (.inl (some (.int r.1))) r.2) : ps_At mX12_curve (d + 1) 47 [(0, .ref x0), (1, .int x1), (2, .int x2), (3, .int x3), (4, .int x4)] [] g Q := by
  unfold jX12_curve_47 at h
  refine sX12_curve_47 ?_
  exact ps_weak (pjX12_curve_52 h hk) ⟨rfl, rfl, rfl, rfl, rfl, trivial⟩
noncomputable def fX12_curve (g : ps_G) (x0 : Nat) (x1 : Int32) (x2 : Int32) (x3 : Int32) (x4 : Int32) : Option (Int32 × ps_G) := if (fX12_in x1 (0 : Int32) (7 : Int32)) = 0 then (jX12_curve_51 g x0 x1 x2 x3 x4) else (if (fX12_in x2 (0 : Int32) (3 : Int32)) = 0 then (jX12_curve_51 g x0 x1 x2 x3 x4) else (if x3 = (-1 : Int32) then (jX12_curve_47 g x0 x1 x2 x3 x4) else (if (fX12_in x3 (0 : Int32) (255 : Int32)) = 0 then (jX12_curve_51 g x0 x1 x2 x3 x4) else (if (fX12_in x4 (0 : Int32) (255 : Int32)) = 0 then (jX12_curve_51 g x0 x1 x2 x3 x4) else (jX12_curve_47 g x0 x1 x2 x3 x4)))))
theorem rX12_curve {d : Nat} {Q : ps_Rs → ps_G → Prop} {g : ps_G} {x0 : Nat} {x1 : Int32} {x2 : Int32} {x3 : Int32} {x4 : Int32} {r : Int32 × ps_G} (h : fX12_curve g x0 x1 x2 x3 x4 = some r) (hk : Q (.inl (some (.int r.1))) r.2) : ps_Ok mX12_curve (d + 1) [.ref x0, .int x1, .int x2, .int x3, .int x4] g Q := by
  unfold fX12_curve at h
  refine sX12_curve_0 ?_
  refine rX12_in rfl ?_
  refine And.intro (fun hc1 => ?_) (fun hc1 => ?_)
  · replace h := q_ifp (hc1) h
    exact ps_weak (pjX12_curve_51 h hk) ⟨rfl, rfl, rfl, rfl, rfl, trivial⟩
  · replace h := q_ifn (hc1) h
    refine rX12_in rfl ?_
    refine And.intro (fun hc97 => ?_) (fun hc97 => ?_)
    · replace h := q_ifp (hc97) h
      exact ps_weak (pjX12_curve_51 h hk) ⟨rfl, rfl, rfl, rfl, rfl, trivial⟩
    · replace h := q_ifn (hc97) h
      refine And.intro (fun hc98 => ?_) (fun hc98 => ?_)
      · replace h := q_ifp (hc98) h
        exact ps_weak (pjX12_curve_47 h hk) ⟨rfl, rfl, rfl, rfl, rfl, trivial⟩
      · replace h := q_ifn (hc98) h
        refine rX12_in rfl ?_
        refine And.intro (fun hc99 => ?_) (fun hc99 => ?_)
        · replace h := q_ifp (hc99) h
          exact ps_weak (pjX12_curve_51 h hk) ⟨rfl, rfl, rfl, rfl, rfl, trivial⟩
        · replace h := q_ifn (hc99) h
          refine rX12_in rfl ?_
          refine And.intro (fun hc100 => ?_) (fun hc100 => ?_)
          · replace h := q_ifp (hc100) h
            exact ps_weak (pjX12_curve_51 h hk) ⟨rfl, rfl, rfl, rfl, rfl, trivial⟩
          · replace h := q_ifn (hc100) h
            exact ps_weak (pjX12_curve_47 h hk) ⟨rfl, rfl, rfl, rfl, rfl, trivial⟩
noncomputable def jX12_isRight_168 (g : ps_G) (k0 : Int32) : Option (Int32) := Option.bind (q_bl k0) fun v9 => some v9
theorem pjX12_isRight_168 {d : Nat} {Q : ps_Rs → ps_G → Prop} {g : ps_G} {k0 : Int32} {r : Int32} (h : jX12_isRight_168 g k0 = some r) (hk : Q (.inl (some (.int r))) g) : ps_At mX12_isRight (d + 1) 168 [] [.int k0] g Q := by
  unfold jX12_isRight_168 at h
  refine sX12_isRight_168 ?_
  replace h := q_be h
  obtain ⟨v9, hv, h⟩ := h
  replace hv := q_bl_e hv
  obtain ⟨zv9, rfl⟩ := hv
  cases h
  exact ⟨rfl, zv9, hk⟩
noncomputable def jX12_isRight_167 (g : ps_G) : Option (Int32) := jX12_isRight_168 g (0 : Int32)
theorem pjX12_isRight_167 {d : Nat} {Q : ps_Rs → ps_G → Prop} {g : ps_G}  {r : Int32} (h : jX12_isRight_167 g = some r) (hk : Q (.inl (some (.int r))) g) : ps_At mX12_isRight (d + 1) 167 [] [] g Q := by
  unfold jX12_isRight_167 at h
  refine sX12_isRight_167 ?_
  exact ps_weak (pjX12_isRight_168 h hk) trivial
noncomputable def jX12_isRight_100 (g : ps_G) (x1 : Int32) (x2 : Int32) (x3 : Int32) (x4 : Int32) (x5 : Int32) (k0 : Int32) : Option (Int32) := if ¬ (x1 = (1 : Int32)) ∧ (¬ x1 = (2 : Int32)) then (if ¬ x1 = (6 : Int32) then (Option.bind (q_bl k0) fun v7 => some v7) else (if k0 = 0 then (jX12_isRight_167 g) else (if (fX12_in x2 (0 : Int32) (7 : Int32)) = 0 then (jX12_isRight_167 g) else (if (fX12_in x3 (0 : Int32) (1 : Int32)) = 0 then (jX12_isRight_167 g) else (jX12_isRight_168 g (1 : Int32)))))) else (some (if (k0 = 0) ∨ ((x4 < 0) ∨ (x5 < 0)) then (0 : Int32) else (1 : Int32)))
theorem pjX12_isRight_100 {d : Nat} {Q : ps_Rs → ps_G → Prop} {g : ps_G} {x1 : Int32} {x2 : Int32} {x3 : Int32} {x4 : Int32} {x5 : Int32} {k0 : Int32} {r : Int32} (h : jX12_isRight_100 g x1 x2 x3 x4 x5 k0 = some r) (hk : Q (.inl (some (.int r))) g) : ps_At mX12_isRight (d + 1) 100 [(1, .int x1), (2, .int x2), (3, .int x3), (4, .int x4), (5, .int x5)] [.int k0] g Q := by
  unfold jX12_isRight_100 at h
  refine sX12_isRight_100 ?_
  have kF26 : (some (if (k0 = 0) ∨ ((x4 < 0) ∨ (x5 < 0)) then (0 : Int32) else (1 : Int32))) = some r → ps_At mX12_isRight (d + 1) 112 [(4, .int x4), (5, .int x5), (6, .int k0)] [] g Q := fun h => by
    refine sX12_isRight_112 ?_
    have kJ24 : ∀ w23 : Int32, w23 = (if (k0 = 0) ∨ ((x4 < 0) ∨ (x5 < 0)) then (0 : Int32) else (1 : Int32)) → ps_At mX12_isRight (d + 1) 132 [] [.int w23] g Q := by
      rintro _ rfl
      refine sX12_isRight_132 ?_
      cases h
      exact ⟨rfl, q_ib (Or.inl rfl) (Or.inr rfl), hk⟩
    refine And.intro (fun hc20 => ?_) (fun hc20 => ?_)
    · refine sX12_isRight_131 ?_
      exact ps_weak (kJ24 _ (if_pos (Or.inl hc20)).symm) trivial
    · refine And.intro (fun hc21 => ?_) (fun hc21 => ?_)
      · refine sX12_isRight_131 ?_
        exact ps_weak (kJ24 _ (if_pos (Or.inr (Or.inl hc21))).symm) trivial
      · refine And.intro (fun hc22 => ?_) (fun hc22 => ?_)
        · refine sX12_isRight_131 ?_
          exact ps_weak (kJ24 _ (if_pos (Or.inr (Or.inr (hc22)))).symm) trivial
        · exact ps_weak (kJ24 _ (if_neg (not_or.mpr ⟨hc20, not_or.mpr ⟨hc21, hc22⟩⟩)).symm) trivial
  refine ⟨by decide, ?_⟩
  refine And.intro (fun hc4 => ?_) (fun hc4 => ?_)
  · exact ps_weak (kF26 (q_ifn (fun z => z.1 hc4) h)) ⟨rfl, rfl, rfl, trivial⟩
  · refine And.intro (fun hc5 => ?_) (fun hc5 => ?_)
    · replace h := q_ifp (⟨hc4, hc5⟩) h
      refine sX12_isRight_133 ?_
      refine And.intro (fun hc6 => ?_) (fun hc6 => ?_)
      · replace h := q_ifp (hc6) h
        refine sX12_isRight_169 ?_
        replace h := q_be h
        obtain ⟨v7, hv, h⟩ := h
        replace hv := q_bl_e hv
        obtain ⟨zv7, rfl⟩ := hv
        cases h
        exact ⟨rfl, zv7, hk⟩
      · replace h := q_ifn (hc6) h
        refine And.intro (fun hc8 => ?_) (fun hc8 => ?_)
        · replace h := q_ifp (hc8) h
          exact ps_weak (pjX12_isRight_167 h hk) trivial
        · replace h := q_ifn (hc8) h
          refine rX12_in rfl ?_
          refine And.intro (fun hc10 => ?_) (fun hc10 => ?_)
          · replace h := q_ifp (hc10) h
            exact ps_weak (pjX12_isRight_167 h hk) trivial
          · replace h := q_ifn (hc10) h
            refine rX12_in rfl ?_
            refine And.intro (fun hc11 => ?_) (fun hc11 => ?_)
            · replace h := q_ifp (hc11) h
              exact ps_weak (pjX12_isRight_167 h hk) trivial
            · replace h := q_ifn (hc11) h
              exact ps_weak (pjX12_isRight_168 h hk) trivial
    · exact ps_weak (kF26 (q_ifn (fun z => hc5 z.2) h)) ⟨rfl, rfl, rfl, trivial⟩
noncomputable def jX12_isRight_99 (g : ps_G) (x1 : Int32) (x2 : Int32) (x3 : Int32) (x4 : Int32) (x5 : Int32) : Option (Int32) := jX12_isRight_100 g x1 x2 x3 x4 x5 (0 : Int32)
theorem pjX12_isRight_99 {d : Nat} {Q : ps_Rs → ps_G → Prop} {g : ps_G} {x1 : Int32} {x2 : Int32} {x3 : Int32} {x4 : Int32} {x5 : Int32} {r : Int32} (h : jX12_isRight_99 g x1 x2 x3 x4 x5 = some r) (hk : Q (.inl (some (.int r))) g) : ps_At mX12_isRight (d + 1) 99 [(1, .int x1), (2, .int x2), (3, .int x3), (4, .int x4), (5, .int x5)] [] g Q := by
  unfold jX12_isRight_99 at h
  refine sX12_isRight_99 ?_
  exact ps_weak (pjX12_isRight_100 h hk) ⟨rfl, rfl, rfl, rfl, rfl, trivial⟩
noncomputable def jX12_isRight_48 (g : ps_G) (k0 : Int32) : Option (Int32) := Option.bind (q_bl k0) fun v41 => some v41
theorem pjX12_isRight_48 {d : Nat} {Q : ps_Rs → ps_G → Prop} {g : ps_G} {k0 : Int32} {r : Int32} (h : jX12_isRight_48 g k0 = some r) (hk : Q (.inl (some (.int r))) g) : ps_At mX12_isRight (d + 1) 48 [] [.int k0] g Q := by
  unfold jX12_isRight_48 at h
  refine sX12_isRight_48 ?_
  replace h := q_be h
  obtain ⟨v41, hv, h⟩ := h
  replace hv := q_bl_e hv
  obtain ⟨zv41, rfl⟩ := hv
  cases h
  exact ⟨rfl, zv41, hk⟩
noncomputable def jX12_isRight_47 (g : ps_G) : Option (Int32) := jX12_isRight_48 g (0 : Int32)
theorem pjX12_isRight_47 {d : Nat} {Q : ps_Rs → ps_G → Prop} {g : ps_G}  {r : Int32} (h : jX12_isRight_47 g = some r) (hk : Q (.inl (some (.int r))) g) : ps_At mX12_isRight (d + 1) 47 [] [] g Q := by
  unfold jX12_isRight_47 at h
  refine sX12_isRight_47 ?_
  exact ps_weak (pjX12_isRight_48 h hk) trivial
noncomputable def fX12_isRight (g : ps_G) (x0 : Nat) (x1 : Int32) (x2 : Int32) (x3 : Int32) (x4 : Int32) (x5 : Int32) : Option (Int32) := if ¬ (x1 = (3 : Int32)) ∧ (¬ x1 = (4 : Int32)) then (if (fX12_in x2 (-100 : Int32) (100 : Int32)) = 0 then (jX12_isRight_99 g x1 x2 x3 x4 x5) else (if (fX12_in x3 (-100 : Int32) (100 : Int32)) = 0 then (jX12_isRight_99 g x1 x2 x3 x4 x5) else (if (fX12_in x4 (-100 : Int32) (100 : Int32)) = 0 then (jX12_isRight_99 g x1 x2 x3 x4 x5) else (if (fX12_in x5 (-100 : Int32) (100 : Int32)) = 0 then (jX12_isRight_99 g x1 x2 x3 x4 x5) else (jX12_isRight_100 g x1 x2 x3 x4 x5 (1 : Int32)))))) else (Option.bind (q_ob 12 g x0) fun u38 => Option.bind (fX12_isPlace g x0 x2 x3) fun v39 => if v39 = 0 then (jX12_isRight_47 g) else (if (fX12_in x4 (0 : Int32) (255 : Int32)) = 0 then (jX12_isRight_47 g) else (if (fX12_in x5 (-100 : Int32) (100 : Int32)) = 0 then (jX12_isRight_47 g) else (jX12_isRight_48 g (1 : Int32)))))
theorem rX12_isRight {d : Nat} {Q : ps_Rs → ps_G → Prop} {g : ps_G} {x0 : Nat} {x1 : Int32} {x2 : Int32} {x3 : Int32} {x4 : Int32} {x5 : Int32} {r : Int32} (h : fX12_isRight g x0 x1 x2 x3 x4 x5 = some r) (hk : Q (.inl (some (.int r))) g) : ps_Ok mX12_isRight (d + 1) [.ref x0, .int x1, .int x2, .int x3, .int x4, .int x5] g Q := by
  unfold fX12_isRight at h
  refine sX12_isRight_0 ?_
  have kF51 : (Option.bind (q_ob 12 g x0) fun u38 => Option.bind (fX12_isPlace g x0 x2 x3) fun v39 => if v39 = 0 then (jX12_isRight_47 g) else (if (fX12_in x4 (0 : Int32) (255 : Int32)) = 0 then (jX12_isRight_47 g) else (if (fX12_in x5 (-100 : Int32) (100 : Int32)) = 0 then (jX12_isRight_47 g) else (jX12_isRight_48 g (1 : Int32))))) = some r → ps_At mX12_isRight (d + 1) 10 [(0, .ref x0), (2, .int x2), (3, .int x3), (4, .int x4), (5, .int x5)] [] g Q := fun h => by
    refine sX12_isRight_10 ?_
    replace h := q_be h
    obtain ⟨u38, hv, h⟩ := h
    replace hv := q_ob_e hv
    obtain ⟨_, cu38⟩ := hv
    replace h := q_be h
    obtain ⟨v39, hv, h⟩ := h
    refine ⟨⟨some _, rfl⟩, ⟨_, cu38⟩, ?_⟩
    refine rX12_isPlace hv ?_
    refine And.intro (fun hc40 => ?_) (fun hc40 => ?_)
    · replace h := q_ifp (hc40) h
      exact ps_weak (pjX12_isRight_47 h hk) trivial
    · replace h := q_ifn (hc40) h
      refine rX12_in rfl ?_
      refine And.intro (fun hc42 => ?_) (fun hc42 => ?_)
      · replace h := q_ifp (hc42) h
        exact ps_weak (pjX12_isRight_47 h hk) trivial
      · replace h := q_ifn (hc42) h
        refine rX12_in rfl ?_
        refine And.intro (fun hc43 => ?_) (fun hc43 => ?_)
        · replace h := q_ifp (hc43) h
          exact ps_weak (pjX12_isRight_47 h hk) trivial
        · replace h := q_ifn (hc43) h
          exact ps_weak (pjX12_isRight_48 h hk) trivial
  refine And.intro (fun hc1 => ?_) (fun hc1 => ?_)
  · exact ps_weak (kF51 (q_ifn (fun z => z.1 hc1) h)) ⟨rfl, rfl, rfl, rfl, rfl, trivial⟩
  · refine And.intro (fun hc2 => ?_) (fun hc2 => ?_)
    · replace h := q_ifp (⟨hc1, hc2⟩) h
      refine sX12_isRight_49 ?_
      refine rX12_in rfl ?_
      refine And.intro (fun hc3 => ?_) (fun hc3 => ?_)
      · replace h := q_ifp (hc3) h
        exact ps_weak (pjX12_isRight_99 h hk) ⟨rfl, rfl, rfl, rfl, rfl, trivial⟩
      · replace h := q_ifn (hc3) h
        refine rX12_in rfl ?_
        refine And.intro (fun hc27 => ?_) (fun hc27 => ?_)
        · replace h := q_ifp (hc27) h
          exact ps_weak (pjX12_isRight_99 h hk) ⟨rfl, rfl, rfl, rfl, rfl, trivial⟩
        · replace h := q_ifn (hc27) h
          refine rX12_in rfl ?_
          refine And.intro (fun hc28 => ?_) (fun hc28 => ?_)
          · replace h := q_ifp (hc28) h
            exact ps_weak (pjX12_isRight_99 h hk) ⟨rfl, rfl, rfl, rfl, rfl, trivial⟩
          · replace h := q_ifn (hc28) h
            refine rX12_in rfl ?_
            refine And.intro (fun hc29 => ?_) (fun hc29 => ?_)
            · replace h := q_ifp (hc29) h
              exact ps_weak (pjX12_isRight_99 h hk) ⟨rfl, rfl, rfl, rfl, rfl, trivial⟩
            · replace h := q_ifn (hc29) h
              exact ps_weak (pjX12_isRight_100 h hk) ⟨rfl, rfl, rfl, rfl, rfl, trivial⟩
    · exact ps_weak (kF51 (q_ifn (fun z => hc2 z.2) h)) ⟨rfl, rfl, rfl, rfl, rfl, trivial⟩
noncomputable def bX12_alike_2 (g : ps_G) (x0 : Int32) (x1 : Int32) (x2 : Int32) (x3 : Int32) : Option ((Int32) ⊕ ((Unit) ⊕ (Int32))) := if (4 : Int32) ≤ x3 then (some (.inr (.inl ()))) else (if (fX12_abs ((fX12_part x0 x3) - (fX12_part x1 x3))) ≤ x2 then (some (.inl (x3 + (1 : Int32)))) else (some (.inr (.inr (0 : Int32)))))
theorem pbX12_alike_2 {d : Nat} {Q : ps_Rs → ps_G → Prop} {g : ps_G} {x0 : Int32} {x1 : Int32} {x2 : Int32} {x3 : Int32} {x : (Int32) ⊕ ((Unit) ⊕ (Int32))} (h : bX12_alike_2 g x0 x1 x2 x3 = some x) (hh : ∀ s' : Int32, x = .inl s' → ps_At mX12_alike (d + 1) 2 [(0, .int x0), (1, .int x1), (2, .int x2), (3, .int s')] [] g Q) (he : ∀ r' : Unit, x = .inr (.inl r') → ps_At mX12_alike (d + 1) 33 [] [] g Q) (hr : ∀ v' : Int32, x = .inr (.inr v') → Q (.inl (some (.int v'))) g) : ps_At mX12_alike (d + 1) 2 [(0, .int x0), (1, .int x1), (2, .int x2), (3, .int x3)] [] g Q := by
  unfold bX12_alike_2 at h
  refine sX12_alike_2 ?_
  refine And.intro (fun hc1 => ?_) (fun hc1 => ?_)
  · replace h := q_ifp (hc1) h
    exact ps_weak (he () (Option.some.inj h).symm) trivial
  · replace h := q_ifn (hc1) h
    refine rX12_part rfl ?_
    refine rX12_part rfl ?_
    refine rX12_abs rfl ?_
    refine And.intro (fun hc2 => ?_) (fun hc2 => ?_)
    · replace h := q_ifp (hc2) h
      refine sX12_alike_27 ?_
      refine ⟨by decide, ?_⟩
      exact ps_weak (hh (x3 + (1 : Int32)) (Option.some.inj h).symm) ⟨rfl, rfl, rfl, rfl, trivial⟩
    · replace h := q_ifn (hc2) h
      exact ⟨rfl, Or.inl rfl, hr (0 : Int32) (Option.some.inj h).symm⟩
noncomputable def fX12_alike (g : ps_G) (x0 : Int32) (x1 : Int32) (x2 : Int32) : Option (Int32) := Option.bind (q_lp (fun s => bX12_alike_2 g x0 x1 x2 s) (0 : Int32)) fun s7 => Sum.elim (fun r8 => some (1 : Int32)) (fun v9 => some v9) s7
theorem rX12_alike {d : Nat} {Q : ps_Rs → ps_G → Prop} {g : ps_G} {x0 : Int32} {x1 : Int32} {x2 : Int32} {r : Int32} (h : fX12_alike g x0 x1 x2 = some r) (hk : Q (.inl (some (.int r))) g) : ps_Ok mX12_alike (d + 1) [.int x0, .int x1, .int x2] g Q := by
  unfold fX12_alike at h
  refine sX12_alike_0 ?_
  refine ⟨by decide, ?_⟩
  replace h := q_be h
  obtain ⟨s7, hl, h⟩ := h
  refine ps_weak (q_lp_ok hl (fun s => ps_At mX12_alike (d + 1) 2 [(0, .int x0), (1, .int x1), (2, .int x2), (3, .int s)] [] g Q) (Sum.elim (fun r => ps_At mX12_alike (d + 1) 33 [] [] g Q) (fun v => Q (.inl (some (.int v))) g)) (fun s x hb hh he => pbX12_alike_2 hb hh (fun _ e => he _ e) (fun _ e => he _ e)) ?_) ⟨rfl, rfl, rfl, rfl, trivial⟩
  rcases s7 with r8 | v9
  · refine (?_ : ps_At mX12_alike (d + 1) 33 [] [] g Q)
    refine sX12_alike_33 ?_
    cases h
    exact ⟨rfl, Or.inr rfl, hk⟩
  · cases h
    exact hk
noncomputable def jX12_wand_72_31 (g : ps_G) (x0 : Nat) (x1 : Int32) (x2 : Int32) (x3 : Int32) (x4 : Int32) (x5 : Int32) (x6 : Int32) (x7 : Int32) (k0 : Option Nat) (k1 : Int32) (k2 : Int32) : Option ((Int32 × ps_G) ⊕ (ps_G)) := Option.bind (k0) fun a15 => Option.bind (q_wI g a15 k1 k2) fun g16 => some (.inl (x7 + (1 : Int32), g16))
theorem pjX12_wand_72_31 {d : Nat} {Q : ps_Rs → ps_G → Prop} {g : ps_G} {x0 : Nat} {x1 : Int32} {x2 : Int32} {x3 : Int32} {x4 : Int32} {x5 : Int32} {x6 : Int32} {x7 : Int32} {k0 : Option Nat} {k1 : Int32} {k2 : Int32} {x : (Int32 × ps_G) ⊕ (ps_G)} (h : jX12_wand_72_31 g x0 x1 x2 x3 x4 x5 x6 x7 k0 k1 k2 = some x) (hh : ∀ s' : Int32 × ps_G, x = .inl s' → ps_At mX12_wand (d + 9) 31 [(0, .ref x0), (1, .int x1), (2, .int x2), (3, .int x3), (4, .int x4), (5, .int x5), (6, .int x6), (7, .int s'.1)] [] s'.2 Q) (he : ∀ r' : ps_G, x = .inr r' → ps_At mX12_wand (d + 9) 79 [(0, .ref x0), (1, .int x1), (2, .int x2), (3, .int x3), (4, .int x4), (5, .int x5)] [] r' Q) : ps_At mX12_wand (d + 9) 72 [(0, .ref x0), (1, .int x1), (2, .int x2), (3, .int x3), (4, .int x4), (5, .int x5), (6, .int x6), (7, .int x7)] [.int k2, .int k1, va_rf k0] g Q := by
  unfold jX12_wand_72_31 at h
  refine sX12_wand_72 ?_
  replace h := q_be h
  obtain ⟨a15, ea15, h⟩ := h
  subst ea15
  replace h := q_be h
  obtain ⟨g16, hv, h⟩ := h
  replace hv := q_wI_e hv
  obtain ⟨_, _, cg16, pg16, ig16, yg16⟩ := hv
  refine ⟨_, _, cg16, pg16, ig16, _, yg16, by decide, ?_⟩
  exact ps_weak (hh (x7 + (1 : Int32), g16) (Option.some.inj h).symm) ⟨rfl, rfl, rfl, rfl, rfl, rfl, rfl, rfl, trivial⟩
noncomputable def jX12_wand_71_31 (g : ps_G) (x0 : Nat) (x1 : Int32) (x2 : Int32) (x3 : Int32) (x4 : Int32) (x5 : Int32) (x6 : Int32) (x7 : Int32) (k0 : Option Nat) (k1 : Int32) : Option ((Int32 × ps_G) ⊕ (ps_G)) := jX12_wand_72_31 g x0 x1 x2 x3 x4 x5 x6 x7 k0 k1 (0 : Int32)
theorem pjX12_wand_71_31 {d : Nat} {Q : ps_Rs → ps_G → Prop} {g : ps_G} {x0 : Nat} {x1 : Int32} {x2 : Int32} {x3 : Int32} {x4 : Int32} {x5 : Int32} {x6 : Int32} {x7 : Int32} {k0 : Option Nat} {k1 : Int32} {x : (Int32 × ps_G) ⊕ (ps_G)} (h : jX12_wand_71_31 g x0 x1 x2 x3 x4 x5 x6 x7 k0 k1 = some x) (hh : ∀ s' : Int32 × ps_G, x = .inl s' → ps_At mX12_wand (d + 9) 31 [(0, .ref x0), (1, .int x1), (2, .int x2), (3, .int x3), (4, .int x4), (5, .int x5), (6, .int x6), (7, .int s'.1)] [] s'.2 Q) (he : ∀ r' : ps_G, x = .inr r' → ps_At mX12_wand (d + 9) 79 [(0, .ref x0), (1, .int x1), (2, .int x2), (3, .int x3), (4, .int x4), (5, .int x5)] [] r' Q) : ps_At mX12_wand (d + 9) 71 [(0, .ref x0), (1, .int x1), (2, .int x2), (3, .int x3), (4, .int x4), (5, .int x5), (6, .int x6), (7, .int x7)] [.int k1, va_rf k0] g Q := by
  unfold jX12_wand_71_31 at h
  refine sX12_wand_71 ?_
  exact ps_weak (pjX12_wand_72_31 h hh he) ⟨rfl, rfl, rfl, rfl, rfl, rfl, rfl, rfl, trivial⟩
noncomputable def bX12_wand_31 (x0 : Nat) (x1 : Int32) (x2 : Int32) (x3 : Int32) (x4 : Int32) (x5 : Int32) (x6 : Int32) (x7 : Int32) (g : ps_G) : Option ((Int32 × ps_G) ⊕ (ps_G)) := if x6 ≤ x7 then (some (.inr g)) else (Option.bind (q_fR 12 32 g x0) fun v12 => Option.bind (v12) fun a13 => if ¬ x4 = 0 then (jX12_wand_71_31 g x0 x1 x2 x3 x4 x5 x6 x7 (some a13) x7) else (Option.bind (q_fR 12 16 g x0) fun v17 => Option.bind (v17) fun a18 => Option.bind (q_aI g a18 x7) fun v19 => Option.bind (fX12_alike g v19 x5 x3) fun v20 => if v20 = 0 then (jX12_wand_71_31 g x0 x1 x2 x3 x4 x5 x6 x7 (some a13) x7) else (jX12_wand_72_31 g x0 x1 x2 x3 x4 x5 x6 x7 (some a13) x7 (255 : Int32))))
theorem pbX12_wand_31 {d : Nat} {Q : ps_Rs → ps_G → Prop}  {x0 : Nat} {x1 : Int32} {x2 : Int32} {x3 : Int32} {x4 : Int32} {x5 : Int32} {x6 : Int32} {x7 : Int32} {g : ps_G} {x : (Int32 × ps_G) ⊕ (ps_G)} (h : bX12_wand_31 x0 x1 x2 x3 x4 x5 x6 x7 g = some x) (hh : ∀ s' : Int32 × ps_G, x = .inl s' → ps_At mX12_wand (d + 9) 31 [(0, .ref x0), (1, .int x1), (2, .int x2), (3, .int x3), (4, .int x4), (5, .int x5), (6, .int x6), (7, .int s'.1)] [] s'.2 Q) (he : ∀ r' : ps_G, x = .inr r' → ps_At mX12_wand (d + 9) 79 [(0, .ref x0), (1, .int x1), (2, .int x2), (3, .int x3), (4, .int x4), (5, .int x5)] [] r' Q) : ps_At mX12_wand (d + 9) 31 [(0, .ref x0), (1, .int x1), (2, .int x2), (3, .int x3), (4, .int x4), (5, .int x5), (6, .int x6), (7, .int x7)] [] g Q := by
  unfold bX12_wand_31 at h
  refine sX12_wand_31 ?_
  refine And.intro (fun hc10 => ?_) (fun hc10 => ?_)
  · replace h := q_ifp (hc10) h
    exact ps_weak (he g (Option.some.inj h).symm) ⟨rfl, rfl, rfl, rfl, rfl, rfl, trivial⟩
  · replace h := q_ifn (hc10) h
    replace h := q_be h
    obtain ⟨v12, hv, h⟩ := h
    replace hv := q_fR_e hv
    obtain ⟨_, cv12, dv12⟩ := hv
    replace h := q_be h
    obtain ⟨a13, ea13, h⟩ := h
    subst ea13
    refine ⟨⟨some _, rfl⟩, _, _, cv12, dv12, ?_⟩
    refine And.intro (fun hc14 => ?_) (fun hc14 => ?_)
    · replace h := q_ifp (hc14) h
      exact ps_weak (pjX12_wand_71_31 h hh he) ⟨rfl, rfl, rfl, rfl, rfl, rfl, rfl, rfl, trivial⟩
    · replace h := q_ifn (hc14) h
      replace h := q_be h
      obtain ⟨v17, hv, h⟩ := h
      replace hv := q_fR_e hv
      obtain ⟨_, cv17, dv17⟩ := hv
      replace h := q_be h
      obtain ⟨a18, ea18, h⟩ := h
      subst ea18
      replace h := q_be h
      obtain ⟨v19, hv, h⟩ := h
      replace hv := q_aI_e hv
      obtain ⟨_, _, cv19, iv19, yv19⟩ := hv
      replace h := q_be h
      obtain ⟨v20, hv, h⟩ := h
      refine ⟨⟨some _, rfl⟩, _, _, cv17, dv17, _, _, cv19, iv19, _, yv19, ?_⟩
      refine rX12_alike hv ?_
      refine And.intro (fun hc21 => ?_) (fun hc21 => ?_)
      · replace h := q_ifp (hc21) h
        exact ps_weak (pjX12_wand_71_31 h hh he) ⟨rfl, rfl, rfl, rfl, rfl, rfl, rfl, rfl, trivial⟩
      · replace h := q_ifn (hc21) h
        exact ps_weak (pjX12_wand_72_31 h hh he) ⟨rfl, rfl, rfl, rfl, rfl, rfl, rfl, rfl, trivial⟩
noncomputable def jX12_wand_304_153 (g : ps_G) (x0 : Nat) (x3 : Int32) (x5 : Int32) (x7 : Int32) (x8 : Int32) (x9 : Int32) (x10 : Int32) : Option ((Int32 × Int32 × ps_G) ⊕ (Int32 × ps_G)) := some (.inl (x7, x10 + (1 : Int32), g))
theorem pjX12_wand_304_153 {d : Nat} {Q : ps_Rs → ps_G → Prop} {g : ps_G} {x0 : Nat} {x3 : Int32} {x5 : Int32} {x7 : Int32} {x8 : Int32} {x9 : Int32} {x10 : Int32} {x : (Int32 × Int32 × ps_G) ⊕ (Int32 × ps_G)} (h : jX12_wand_304_153 g x0 x3 x5 x7 x8 x9 x10 = some x) (hh : ∀ s' : Int32 × Int32 × ps_G, x = .inl s' → ps_At mX12_wand (d + 9) 153 [(0, .ref x0), (3, .int x3), (5, .int x5), (7, .int s'.1), (8, .int x8), (9, .int x9), (10, .int s'.2.1)] [] s'.2.2 Q) (he : ∀ r' : Int32 × ps_G, x = .inr r' → ps_At mX12_wand (d + 9) 310 [(0, .ref x0), (3, .int x3), (5, .int x5), (7, .int r'.1)] [] r'.2 Q) : ps_At mX12_wand (d + 9) 304 [(0, .ref x0), (3, .int x3), (5, .int x5), (7, .int x7), (8, .int x8), (9, .int x9), (10, .int x10)] [] g Q := by
  unfold jX12_wand_304_153 at h
  refine sX12_wand_304 ?_
  refine ⟨by decide, ?_⟩
  exact ps_weak (hh (x7, x10 + (1 : Int32), g) (Option.some.inj h).symm) ⟨rfl, rfl, rfl, rfl, rfl, rfl, rfl, trivial⟩
noncomputable def bX12_wand_153 (x0 : Nat) (x3 : Int32) (x5 : Int32) (x8 : Int32) (x9 : Int32) (x7 : Int32) (x10 : Int32) (g : ps_G) : Option ((Int32 × Int32 × ps_G) ⊕ (Int32 × ps_G)) := if (4 : Int32) ≤ x10 then (some (.inr (x7, g))) else (Option.bind (q_ob 12 g x0) fun u66 => Option.bind (fX12_isPlace g x0 (if ¬ x10 = 0 then (if ¬ x10 = (1 : Int32) then x8 else x8 + (1 : Int32)) else x8 - (1 : Int32)) (if ¬ x10 = (2 : Int32) then (if ¬ x10 = (3 : Int32) then x9 else x9 + (1 : Int32)) else x9 - (1 : Int32))) fun v67 => if v67 = 0 then (jX12_wand_304_153 g x0 x3 x5 x7 x8 x9 x10) else (Option.bind (q_fR 12 32 g x0) fun v70 => Option.bind (v70) fun a71 => Option.bind (q_ob 12 g x0) fun u72 => Option.bind (fX12_at g x0 (if ¬ x10 = 0 then (if ¬ x10 = (1 : Int32) then x8 else x8 + (1 : Int32)) else x8 - (1 : Int32)) (if ¬ x10 = (2 : Int32) then (if ¬ x10 = (3 : Int32) then x9 else x9 + (1 : Int32)) else x9 - (1 : Int32))) fun v73 => Option.bind (q_aI g a71 v73) fun v74 => if 0 < v74 then (jX12_wand_304_153 g x0 x3 x5 x7 x8 x9 x10) else (Option.bind (q_fR 12 16 g x0) fun v77 => Option.bind (v77) fun a78 => Option.bind (q_ob 12 g x0) fun u79 => Option.bind (fX12_at g x0 (if ¬ x10 = 0 then (if ¬ x10 = (1 : Int32) then x8 else x8 + (1 : Int32)) else x8 - (1 : Int32)) (if ¬ x10 = (2 : Int32) then (if ¬ x10 = (3 : Int32) then x9 else x9 + (1 : Int32)) else x9 - (1 : Int32))) fun v80 => Option.bind (q_aI g a78 v80) fun v81 => Option.bind (fX12_alike g v81 x5 x3) fun v82 => if ¬ v82 = 0 then (Option.bind (q_fR 12 32 g x0) fun v85 => Option.bind (v85) fun a86 => Option.bind (q_ob 12 g x0) fun u87 => Option.bind (fX12_at g x0 (if ¬ x10 = 0 then (if ¬ x10 = (1 : Int32) then x8 else x8 + (1 : Int32)) else x8 - (1 : Int32)) (if ¬ x10 = (2 : Int32) then (if ¬ x10 = (3 : Int32) then x9 else x9 + (1 : Int32)) else x9 - (1 : Int32))) fun v88 => Option.bind (q_wI g a86 v88 (255 : Int32)) fun g89 => Option.bind (q_fR 12 33 g89 x0) fun v90 => Option.bind (v90) fun a91 => Option.bind (q_ob 12 g89 x0) fun u92 => Option.bind (fX12_at g89 x0 (if ¬ x10 = 0 then (if ¬ x10 = (1 : Int32) then x8 else x8 + (1 : Int32)) else x8 - (1 : Int32)) (if ¬ x10 = (2 : Int32) then (if ¬ x10 = (3 : Int32) then x9 else x9 + (1 : Int32)) else x9 - (1 : Int32))) fun v93 => Option.bind (q_wI g89 a91 x7 v93) fun g94 => jX12_wand_304_153 g94 x0 x3 x5 (x7 + (1 : Int32)) x8 x9 x10) else (jX12_wand_304_153 g x0 x3 x5 x7 x8 x9 x10))))
theorem pbX12_wand_153 {d : Nat} {Q : ps_Rs → ps_G → Prop}  {x0 : Nat} {x3 : Int32} {x5 : Int32} {x8 : Int32} {x9 : Int32} {x7 : Int32} {x10 : Int32} {g : ps_G} {x : (Int32 × Int32 × ps_G) ⊕ (Int32 × ps_G)} (h : bX12_wand_153 x0 x3 x5 x8 x9 x7 x10 g = some x) (hh : ∀ s' : Int32 × Int32 × ps_G, x = .inl s' → ps_At mX12_wand (d + 9) 153 [(0, .ref x0), (3, .int x3), (5, .int x5), (7, .int s'.1), (8, .int x8), (9, .int x9), (10, .int s'.2.1)] [] s'.2.2 Q) (he : ∀ r' : Int32 × ps_G, x = .inr r' → ps_At mX12_wand (d + 9) 310 [(0, .ref x0), (3, .int x3), (5, .int x5), (7, .int r'.1)] [] r'.2 Q) : ps_At mX12_wand (d + 9) 153 [(0, .ref x0), (3, .int x3), (5, .int x5), (7, .int x7), (8, .int x8), (9, .int x9), (10, .int x10)] [] g Q := by
  unfold bX12_wand_153 at h
  refine sX12_wand_153 ?_
  refine And.intro (fun hc52 => ?_) (fun hc52 => ?_)
  · replace h := q_ifp (hc52) h
    exact ps_weak (he (x7, g) (Option.some.inj h).symm) ⟨rfl, rfl, rfl, rfl, trivial⟩
  · replace h := q_ifn (hc52) h
    have kJ62 : ∀ w61 : Int32, w61 = (if ¬ x10 = 0 then (if ¬ x10 = (1 : Int32) then x8 else x8 + (1 : Int32)) else x8 - (1 : Int32)) → ps_At mX12_wand (d + 9) 186 [(0, .ref x0), (3, .int x3), (5, .int x5), (7, .int x7), (8, .int x8), (9, .int x9), (10, .int x10)] [.int w61] g Q := by
      rintro _ rfl
      refine sX12_wand_186 ?_
      have kJ65 : ∀ w64 : Int32, w64 = (if ¬ x10 = (2 : Int32) then (if ¬ x10 = (3 : Int32) then x9 else x9 + (1 : Int32)) else x9 - (1 : Int32)) → ps_At mX12_wand (d + 9) 216 [(0, .ref x0), (3, .int x3), (5, .int x5), (7, .int x7), (8, .int x8), (9, .int x9), (10, .int x10), (11, .int (if ¬ x10 = 0 then (if ¬ x10 = (1 : Int32) then x8 else x8 + (1 : Int32)) else x8 - (1 : Int32)))] [.int w64] g Q := by
        rintro _ rfl
        refine sX12_wand_216 ?_
        replace h := q_be h
        obtain ⟨u66, hv, h⟩ := h
        replace hv := q_ob_e hv
        obtain ⟨_, cu66⟩ := hv
        replace h := q_be h
        obtain ⟨v67, hv, h⟩ := h
        refine ⟨by decide, ⟨some _, rfl⟩, ⟨_, cu66⟩, ?_⟩
        refine rX12_isPlace hv ?_
        refine And.intro (fun hc68 => ?_) (fun hc68 => ?_)
        · replace h := q_ifp (hc68) h
          exact ps_weak (pjX12_wand_304_153 h hh he) ⟨rfl, rfl, rfl, rfl, rfl, rfl, rfl, trivial⟩
        · replace h := q_ifn (hc68) h
          replace h := q_be h
          obtain ⟨v70, hv, h⟩ := h
          replace hv := q_fR_e hv
          obtain ⟨_, cv70, dv70⟩ := hv
          replace h := q_be h
          obtain ⟨a71, ea71, h⟩ := h
          subst ea71
          replace h := q_be h
          obtain ⟨u72, hv, h⟩ := h
          replace hv := q_ob_e hv
          obtain ⟨_, cu72⟩ := hv
          replace h := q_be h
          obtain ⟨v73, hv, h⟩ := h
          refine ⟨⟨some _, rfl⟩, _, _, cv70, dv70, ⟨some _, rfl⟩, ⟨_, cu72⟩, ?_⟩
          refine rX12_at hv ?_
          replace h := q_be h
          obtain ⟨v74, hv, h⟩ := h
          replace hv := q_aI_e hv
          obtain ⟨_, _, cv74, iv74, yv74⟩ := hv
          refine ⟨_, _, cv74, iv74, _, yv74, ?_⟩
          refine And.intro (fun hc75 => ?_) (fun hc75 => ?_)
          · replace h := q_ifp (hc75) h
            exact ps_weak (pjX12_wand_304_153 h hh he) ⟨rfl, rfl, rfl, rfl, rfl, rfl, rfl, trivial⟩
          · replace h := q_ifn (hc75) h
            replace h := q_be h
            obtain ⟨v77, hv, h⟩ := h
            replace hv := q_fR_e hv
            obtain ⟨_, cv77, dv77⟩ := hv
            replace h := q_be h
            obtain ⟨a78, ea78, h⟩ := h
            subst ea78
            replace h := q_be h
            obtain ⟨u79, hv, h⟩ := h
            replace hv := q_ob_e hv
            obtain ⟨_, cu79⟩ := hv
            replace h := q_be h
            obtain ⟨v80, hv, h⟩ := h
            refine ⟨⟨some _, rfl⟩, _, _, cv77, dv77, ⟨some _, rfl⟩, ⟨_, cu79⟩, ?_⟩
            refine rX12_at hv ?_
            replace h := q_be h
            obtain ⟨v81, hv, h⟩ := h
            replace hv := q_aI_e hv
            obtain ⟨_, _, cv81, iv81, yv81⟩ := hv
            replace h := q_be h
            obtain ⟨v82, hv, h⟩ := h
            refine ⟨_, _, cv81, iv81, _, yv81, ?_⟩
            refine rX12_alike hv ?_
            refine And.intro (fun hc83 => ?_) (fun hc83 => ?_)
            · replace h := q_ifp (hc83) h
              refine sX12_wand_270 ?_
              replace h := q_be h
              obtain ⟨v85, hv, h⟩ := h
              replace hv := q_fR_e hv
              obtain ⟨_, cv85, dv85⟩ := hv
              replace h := q_be h
              obtain ⟨a86, ea86, h⟩ := h
              subst ea86
              replace h := q_be h
              obtain ⟨u87, hv, h⟩ := h
              replace hv := q_ob_e hv
              obtain ⟨_, cu87⟩ := hv
              replace h := q_be h
              obtain ⟨v88, hv, h⟩ := h
              refine ⟨⟨some _, rfl⟩, _, _, cv85, dv85, ⟨some _, rfl⟩, ⟨_, cu87⟩, ?_⟩
              refine rX12_at hv ?_
              replace h := q_be h
              obtain ⟨g89, hv, h⟩ := h
              replace hv := q_wI_e hv
              obtain ⟨_, _, cg89, pg89, ig89, yg89⟩ := hv
              replace h := q_be h
              obtain ⟨v90, hv, h⟩ := h
              replace hv := q_fR_e hv
              obtain ⟨_, cv90, dv90⟩ := hv
              replace h := q_be h
              obtain ⟨a91, ea91, h⟩ := h
              subst ea91
              replace h := q_be h
              obtain ⟨u92, hv, h⟩ := h
              replace hv := q_ob_e hv
              obtain ⟨_, cu92⟩ := hv
              replace h := q_be h
              obtain ⟨v93, hv, h⟩ := h
              refine ⟨_, _, cg89, pg89, ig89, _, yg89, ⟨some _, rfl⟩, _, _, cv90, dv90, ⟨some _, rfl⟩, ⟨_, cu92⟩, ?_⟩
              refine rX12_at hv ?_
              replace h := q_be h
              obtain ⟨g94, hv, h⟩ := h
              replace hv := q_wI_e hv
              obtain ⟨_, _, cg94, pg94, ig94, yg94⟩ := hv
              refine ⟨_, _, cg94, pg94, ig94, _, yg94, by decide, ?_⟩
              exact ps_weak (pjX12_wand_304_153 h hh he) ⟨rfl, rfl, rfl, rfl, rfl, rfl, rfl, trivial⟩
            · replace h := q_ifn (hc83) h
              exact ps_weak (pjX12_wand_304_153 h hh he) ⟨rfl, rfl, rfl, rfl, rfl, rfl, rfl, trivial⟩
      refine ⟨by decide, ?_⟩
      refine And.intro (fun hc63 => ?_) (fun hc63 => ?_)
      · refine sX12_wand_201 ?_
        have kJ103 : ∀ w102 : Int32, w102 = (if ¬ x10 = (3 : Int32) then x9 else x9 + (1 : Int32)) → ps_At mX12_wand (d + 9) 216 [(0, .ref x0), (3, .int x3), (5, .int x5), (7, .int x7), (8, .int x8), (9, .int x9), (10, .int x10), (11, .int (if ¬ x10 = 0 then (if ¬ x10 = (1 : Int32) then x8 else x8 + (1 : Int32)) else x8 - (1 : Int32)))] [.int w102] g Q := by
          rintro _ rfl
          exact ps_weak (kJ65 _ (if_pos (hc63)).symm) ⟨rfl, rfl, rfl, rfl, rfl, rfl, rfl, rfl, trivial⟩
        refine And.intro (fun hc101 => ?_) (fun hc101 => ?_)
        · refine sX12_wand_214 ?_
          exact ps_weak (kJ103 _ (if_pos (hc101)).symm) ⟨rfl, rfl, rfl, rfl, rfl, rfl, rfl, rfl, trivial⟩
        · exact ps_weak (kJ103 _ (if_neg (hc101)).symm) ⟨rfl, rfl, rfl, rfl, rfl, rfl, rfl, rfl, trivial⟩
      · exact ps_weak (kJ65 _ (if_neg (hc63)).symm) ⟨rfl, rfl, rfl, rfl, rfl, rfl, rfl, rfl, trivial⟩
    refine And.intro (fun hc60 => ?_) (fun hc60 => ?_)
    · refine sX12_wand_171 ?_
      have kJ106 : ∀ w105 : Int32, w105 = (if ¬ x10 = (1 : Int32) then x8 else x8 + (1 : Int32)) → ps_At mX12_wand (d + 9) 186 [(0, .ref x0), (3, .int x3), (5, .int x5), (7, .int x7), (8, .int x8), (9, .int x9), (10, .int x10)] [.int w105] g Q := by
        rintro _ rfl
        exact ps_weak (kJ62 _ (if_pos (hc60)).symm) ⟨rfl, rfl, rfl, rfl, rfl, rfl, rfl, trivial⟩
      refine And.intro (fun hc104 => ?_) (fun hc104 => ?_)
      · refine sX12_wand_184 ?_
        exact ps_weak (kJ106 _ (if_pos (hc104)).symm) ⟨rfl, rfl, rfl, rfl, rfl, rfl, rfl, trivial⟩
      · exact ps_weak (kJ106 _ (if_neg (hc104)).symm) ⟨rfl, rfl, rfl, rfl, rfl, rfl, rfl, trivial⟩
    · exact ps_weak (kJ62 _ (if_neg (hc60)).symm) ⟨rfl, rfl, rfl, rfl, rfl, rfl, rfl, trivial⟩
noncomputable def bX12_wand_114 (x0 : Nat) (x3 : Int32) (x5 : Int32) (x7 : Int32) (g : ps_G) : Option ((Int32 × ps_G) ⊕ (ps_G)) := if x7 ≤ 0 then (some (.inr g)) else (Option.bind (q_fR 12 33 g x0) fun v42 => Option.bind (v42) fun a43 => Option.bind (q_aI g a43 (x7 + (-1 : Int32))) fun v44 => Option.bind (q_fI 12 13 g x0) fun v45 => Option.bind (q_mod v44 v45) fun v46 => Option.bind (q_fR 12 33 g x0) fun v47 => Option.bind (v47) fun a48 => Option.bind (q_aI g a48 (x7 + (-1 : Int32))) fun v49 => Option.bind (q_fI 12 13 g x0) fun v50 => Option.bind (q_div v49 v50) fun v51 => Option.bind (q_lp (fun s => bX12_wand_153 x0 x3 x5 v46 v51 s.1 s.2.1 s.2.2) (x7 + (-1 : Int32), (0 : Int32), g)) fun s109 => some (.inl (s109.1, s109.2)))
theorem pbX12_wand_114 {d : Nat} {Q : ps_Rs → ps_G → Prop}  {x0 : Nat} {x3 : Int32} {x5 : Int32} {x7 : Int32} {g : ps_G} {x : (Int32 × ps_G) ⊕ (ps_G)} (h : bX12_wand_114 x0 x3 x5 x7 g = some x) (hh : ∀ s' : Int32 × ps_G, x = .inl s' → ps_At mX12_wand (d + 9) 114 [(0, .ref x0), (3, .int x3), (5, .int x5), (7, .int s'.1)] [] s'.2 Q) (he : ∀ r' : ps_G, x = .inr r' → ps_At mX12_wand (d + 9) 313 [] [] r' Q) : ps_At mX12_wand (d + 9) 114 [(0, .ref x0), (3, .int x3), (5, .int x5), (7, .int x7)] [] g Q := by
  unfold bX12_wand_114 at h
  refine sX12_wand_114 ?_
  refine And.intro (fun hc40 => ?_) (fun hc40 => ?_)
  · replace h := q_ifp (hc40) h
    exact ps_weak (he g (Option.some.inj h).symm) trivial
  · replace h := q_ifn (hc40) h
    replace h := q_be h
    obtain ⟨v42, hv, h⟩ := h
    replace hv := q_fR_e hv
    obtain ⟨_, cv42, dv42⟩ := hv
    replace h := q_be h
    obtain ⟨a43, ea43, h⟩ := h
    subst ea43
    replace h := q_be h
    obtain ⟨v44, hv, h⟩ := h
    replace hv := q_aI_e hv
    obtain ⟨_, _, cv44, iv44, yv44⟩ := hv
    replace h := q_be h
    obtain ⟨v45, hv, h⟩ := h
    replace hv := q_fI_e hv
    obtain ⟨_, cv45, dv45⟩ := hv
    replace h := q_be h
    obtain ⟨v46, hv, h⟩ := h
    replace hv := q_mod_e hv
    obtain ⟨zv46, yv46⟩ := hv
    replace h := q_be h
    obtain ⟨v47, hv, h⟩ := h
    replace hv := q_fR_e hv
    obtain ⟨_, cv47, dv47⟩ := hv
    replace h := q_be h
    obtain ⟨a48, ea48, h⟩ := h
    subst ea48
    replace h := q_be h
    obtain ⟨v49, hv, h⟩ := h
    replace hv := q_aI_e hv
    obtain ⟨_, _, cv49, iv49, yv49⟩ := hv
    replace h := q_be h
    obtain ⟨v50, hv, h⟩ := h
    replace hv := q_fI_e hv
    obtain ⟨_, cv50, dv50⟩ := hv
    replace h := q_be h
    obtain ⟨v51, hv, h⟩ := h
    replace hv := q_div_e hv
    obtain ⟨zv51, yv51⟩ := hv
    refine ⟨by decide, ⟨some _, rfl⟩, _, _, cv42, dv42, _, _, cv44, iv44, _, yv44, ⟨some _, rfl⟩, _, _, cv45, dv45, zv46, _, yv46, by decide, ⟨some _, rfl⟩, _, _, cv47, dv47, _, _, cv49, iv49, _, yv49, ⟨some _, rfl⟩, _, _, cv50, dv50, zv51, _, yv51, by decide, ?_⟩
    refine ⟨by decide, ?_⟩
    replace h := q_be h
    obtain ⟨s109, hl, h⟩ := h
    refine ps_weak (q_lp_ok hl (fun s => ps_At mX12_wand (d + 9) 153 [(0, .ref x0), (3, .int x3), (5, .int x5), (7, .int s.1), (8, .int v46), (9, .int v51), (10, .int s.2.1)] [] s.2.2 Q) (fun r => ps_At mX12_wand (d + 9) 310 [(0, .ref x0), (3, .int x3), (5, .int x5), (7, .int r.1)] [] r.2 Q) (fun s x hb hh he => pbX12_wand_153 hb hh he) ?_) ⟨rfl, rfl, rfl, rfl, rfl, rfl, rfl, trivial⟩
    refine (?_ : ps_At mX12_wand (d + 9) 310 [(0, .ref x0), (3, .int x3), (5, .int x5), (7, .int s109.1)] [] s109.2 Q)
    refine sX12_wand_310 ?_
    exact ps_weak (hh (s109.1, s109.2) (Option.some.inj h).symm) ⟨rfl, rfl, rfl, rfl, trivial⟩
noncomputable def fX12_wand (g : ps_G) (x0 : Nat) (x1 : Int32) (x2 : Int32) (x3 : Int32) (x4 : Int32) : Option (ps_G) := Option.bind (q_ob 12 g x0) fun u1 => Option.bind (fX12_composeAll g x0) fun v2 => Option.bind (q_fR 12 16 v2 x0) fun v3 => Option.bind (v3) fun a4 => Option.bind (q_ob 12 v2 x0) fun u5 => Option.bind (fX12_at v2 x0 x1 x2) fun v6 => Option.bind (q_aI v2 a4 v6) fun v7 => Option.bind (q_fI 12 13 v2 x0) fun v8 => Option.bind (q_fI 12 14 v2 x0) fun v9 => Option.bind (q_lp (fun s => bX12_wand_31 x0 x1 x2 x3 x4 v7 (v8 * v9) s.1 s.2) ((0 : Int32), v2)) fun s28 => if ¬ x4 = 0 then (Option.bind (q_fR 12 33 s28 x0) fun v30 => Option.bind (v30) fun a31 => Option.bind (q_ob 12 s28 x0) fun u32 => Option.bind (fX12_at s28 x0 x1 x2) fun v33 => Option.bind (q_wI s28 a31 (0 : Int32) v33) fun g34 => Option.bind (q_fR 12 32 g34 x0) fun v35 => Option.bind (v35) fun a36 => Option.bind (q_ob 12 g34 x0) fun u37 => Option.bind (fX12_at g34 x0 x1 x2) fun v38 => Option.bind (q_wI g34 a36 v38 (255 : Int32)) fun g39 => Option.bind (q_lp (fun s => bX12_wand_114 x0 x3 v7 s.1 s.2) ((1 : Int32), g39)) fun s112 => some s112) else (some s28)
theorem rX12_wand {d : Nat} {Q : ps_Rs → ps_G → Prop} {g : ps_G} {x0 : Nat} {x1 : Int32} {x2 : Int32} {x3 : Int32} {x4 : Int32} {r : ps_G} (h : fX12_wand g x0 x1 x2 x3 x4 = some r) (hk : Q (.inl none) r) : ps_Ok mX12_wand (d + 9) [.ref x0, .int x1, .int x2, .int x3, .int x4] g Q := by
  unfold fX12_wand at h
  refine sX12_wand_0 ?_
  replace h := q_be h
  obtain ⟨u1, hv, h⟩ := h
  replace hv := q_ob_e hv
  obtain ⟨_, cu1⟩ := hv
  replace h := q_be h
  obtain ⟨v2, hv, h⟩ := h
  refine ⟨⟨some _, rfl⟩, ⟨_, cu1⟩, ?_⟩
  refine rX12_composeAll hv ?_
  replace h := q_be h
  obtain ⟨v3, hv, h⟩ := h
  replace hv := q_fR_e hv
  obtain ⟨_, cv3, dv3⟩ := hv
  replace h := q_be h
  obtain ⟨a4, ea4, h⟩ := h
  subst ea4
  replace h := q_be h
  obtain ⟨u5, hv, h⟩ := h
  replace hv := q_ob_e hv
  obtain ⟨_, cu5⟩ := hv
  replace h := q_be h
  obtain ⟨v6, hv, h⟩ := h
  refine ⟨⟨some _, rfl⟩, _, _, cv3, dv3, ⟨some _, rfl⟩, ⟨_, cu5⟩, ?_⟩
  refine rX12_at hv ?_
  replace h := q_be h
  obtain ⟨v7, hv, h⟩ := h
  replace hv := q_aI_e hv
  obtain ⟨_, _, cv7, iv7, yv7⟩ := hv
  replace h := q_be h
  obtain ⟨v8, hv, h⟩ := h
  replace hv := q_fI_e hv
  obtain ⟨_, cv8, dv8⟩ := hv
  replace h := q_be h
  obtain ⟨v9, hv, h⟩ := h
  replace hv := q_fI_e hv
  obtain ⟨_, cv9, dv9⟩ := hv
  refine ⟨_, _, cv7, iv7, _, yv7, by decide, ⟨some _, rfl⟩, _, _, cv8, dv8, ⟨some _, rfl⟩, _, _, cv9, dv9, by decide, by decide, ?_⟩
  replace h := q_be h
  obtain ⟨s28, hl, h⟩ := h
  refine ps_weak (q_lp_ok hl (fun s => ps_At mX12_wand (d + 9) 31 [(0, .ref x0), (1, .int x1), (2, .int x2), (3, .int x3), (4, .int x4), (5, .int v7), (6, .int (v8 * v9)), (7, .int s.1)] [] s.2 Q) (fun r => ps_At mX12_wand (d + 9) 79 [(0, .ref x0), (1, .int x1), (2, .int x2), (3, .int x3), (4, .int x4), (5, .int v7)] [] r Q) (fun s x hb hh he => pbX12_wand_31 hb hh he) ?_) ⟨rfl, rfl, rfl, rfl, rfl, rfl, rfl, rfl, trivial⟩
  refine (?_ : ps_At mX12_wand (d + 9) 79 [(0, .ref x0), (1, .int x1), (2, .int x2), (3, .int x3), (4, .int x4), (5, .int v7)] [] s28 Q)
  refine sX12_wand_79 ?_
  refine And.intro (fun hc29 => ?_) (fun hc29 => ?_)
  · replace h := q_ifp (hc29) h
    refine sX12_wand_85 ?_
    replace h := q_be h
    obtain ⟨v30, hv, h⟩ := h
    replace hv := q_fR_e hv
    obtain ⟨_, cv30, dv30⟩ := hv
    replace h := q_be h
    obtain ⟨a31, ea31, h⟩ := h
    subst ea31
    replace h := q_be h
    obtain ⟨u32, hv, h⟩ := h
    replace hv := q_ob_e hv
    obtain ⟨_, cu32⟩ := hv
    replace h := q_be h
    obtain ⟨v33, hv, h⟩ := h
    refine ⟨by decide, ⟨some _, rfl⟩, _, _, cv30, dv30, ⟨some _, rfl⟩, ⟨_, cu32⟩, ?_⟩
    refine rX12_at hv ?_
    replace h := q_be h
    obtain ⟨g34, hv, h⟩ := h
    replace hv := q_wI_e hv
    obtain ⟨_, _, cg34, pg34, ig34, yg34⟩ := hv
    replace h := q_be h
    obtain ⟨v35, hv, h⟩ := h
    replace hv := q_fR_e hv
    obtain ⟨_, cv35, dv35⟩ := hv
    replace h := q_be h
    obtain ⟨a36, ea36, h⟩ := h
    subst ea36
    replace h := q_be h
    obtain ⟨u37, hv, h⟩ := h
    replace hv := q_ob_e hv
    obtain ⟨_, cu37⟩ := hv
    replace h := q_be h
    obtain ⟨v38, hv, h⟩ := h
    refine ⟨_, _, cg34, pg34, ig34, _, yg34, ⟨some _, rfl⟩, _, _, cv35, dv35, ⟨some _, rfl⟩, ⟨_, cu37⟩, ?_⟩
    refine rX12_at hv ?_
    replace h := q_be h
    obtain ⟨g39, hv, h⟩ := h
    replace hv := q_wI_e hv
    obtain ⟨_, _, cg39, pg39, ig39, yg39⟩ := hv
    refine ⟨_, _, cg39, pg39, ig39, _, yg39, ?_⟩
    replace h := q_be h
    obtain ⟨s112, hl, h⟩ := h
    refine ps_weak (q_lp_ok hl (fun s => ps_At mX12_wand (d + 9) 114 [(0, .ref x0), (3, .int x3), (5, .int v7), (7, .int s.1)] [] s.2 Q) (fun r => ps_At mX12_wand (d + 9) 313 [] [] r Q) (fun s x hb hh he => pbX12_wand_114 hb hh he) ?_) ⟨rfl, rfl, rfl, rfl, trivial⟩
    refine (?_ : ps_At mX12_wand (d + 9) 313 [] [] s112 Q)
    refine sX12_wand_313 ?_
    cases h
    exact ⟨rfl, rfl, hk⟩
  · replace h := q_ifn (hc29) h
    cases h
    exact ⟨rfl, rfl, hk⟩
noncomputable def fX12_line (g : ps_G) (x0 : Nat) (x1 : Int32) (x2 : Int32) (x3 : Int32) (x4 : Int32) : Option (ps_G) := Option.bind (q_fR 12 53 g x0) fun v1 => Option.bind (v1) fun a2 => Option.bind (q_fI 12 52 g x0) fun v3 => Option.bind (q_wI g a2 v3 x1) fun g4 => Option.bind (q_fR 12 54 g4 x0) fun v5 => Option.bind (v5) fun a6 => Option.bind (q_fI 12 52 g4 x0) fun v7 => Option.bind (q_wI g4 a6 v7 x2) fun g8 => Option.bind (q_fR 12 55 g8 x0) fun v9 => Option.bind (v9) fun a10 => Option.bind (q_fI 12 52 g8 x0) fun v11 => Option.bind (q_wI g8 a10 v11 x3) fun g12 => Option.bind (q_fR 12 56 g12 x0) fun v13 => Option.bind (v13) fun a14 => Option.bind (q_fI 12 52 g12 x0) fun v15 => Option.bind (q_wI g12 a14 v15 x4) fun g16 => Option.bind (q_fI 12 52 g16 x0) fun v17 => Option.bind (q_sI 12 52 g16 x0 (v17 + (1 : Int32))) fun g18 => some g18
theorem rX12_line {d : Nat} {Q : ps_Rs → ps_G → Prop} {g : ps_G} {x0 : Nat} {x1 : Int32} {x2 : Int32} {x3 : Int32} {x4 : Int32} {r : ps_G} (h : fX12_line g x0 x1 x2 x3 x4 = some r) (hk : Q (.inl none) r) : ps_Ok mX12_line d [.ref x0, .int x1, .int x2, .int x3, .int x4] g Q := by
  unfold fX12_line at h
  refine sX12_line_0 ?_
  replace h := q_be h
  obtain ⟨v1, hv, h⟩ := h
  replace hv := q_fR_e hv
  obtain ⟨_, cv1, dv1⟩ := hv
  replace h := q_be h
  obtain ⟨a2, ea2, h⟩ := h
  subst ea2
  replace h := q_be h
  obtain ⟨v3, hv, h⟩ := h
  replace hv := q_fI_e hv
  obtain ⟨_, cv3, dv3⟩ := hv
  replace h := q_be h
  obtain ⟨g4, hv, h⟩ := h
  replace hv := q_wI_e hv
  obtain ⟨_, _, cg4, pg4, ig4, yg4⟩ := hv
  replace h := q_be h
  obtain ⟨v5, hv, h⟩ := h
  replace hv := q_fR_e hv
  obtain ⟨_, cv5, dv5⟩ := hv
  replace h := q_be h
  obtain ⟨a6, ea6, h⟩ := h
  subst ea6
  replace h := q_be h
  obtain ⟨v7, hv, h⟩ := h
  replace hv := q_fI_e hv
  obtain ⟨_, cv7, dv7⟩ := hv
  replace h := q_be h
  obtain ⟨g8, hv, h⟩ := h
  replace hv := q_wI_e hv
  obtain ⟨_, _, cg8, pg8, ig8, yg8⟩ := hv
  replace h := q_be h
  obtain ⟨v9, hv, h⟩ := h
  replace hv := q_fR_e hv
  obtain ⟨_, cv9, dv9⟩ := hv
  replace h := q_be h
  obtain ⟨a10, ea10, h⟩ := h
  subst ea10
  replace h := q_be h
  obtain ⟨v11, hv, h⟩ := h
  replace hv := q_fI_e hv
  obtain ⟨_, cv11, dv11⟩ := hv
  refine ⟨⟨some _, rfl⟩, _, _, cv1, dv1, ⟨some _, rfl⟩, _, _, cv3, dv3, _, _, cg4, pg4, ig4, _, yg4, ⟨some _, rfl⟩, _, _, cv5, dv5, ⟨some _, rfl⟩, _, _, cv7, dv7, _, _, cg8, pg8, ig8, _, yg8, ⟨some _, rfl⟩, _, _, cv9, dv9, ⟨some _, rfl⟩, _, _, cv11, dv11, ?_⟩
  replace h := q_be h
  obtain ⟨g12, hv, h⟩ := h
  replace hv := q_wI_e hv
  obtain ⟨_, _, cg12, pg12, ig12, yg12⟩ := hv
  replace h := q_be h
  obtain ⟨v13, hv, h⟩ := h
  replace hv := q_fR_e hv
  obtain ⟨_, cv13, dv13⟩ := hv
  replace h := q_be h
  obtain ⟨a14, ea14, h⟩ := h
  subst ea14
  replace h := q_be h
  obtain ⟨v15, hv, h⟩ := h
  replace hv := q_fI_e hv
  obtain ⟨_, cv15, dv15⟩ := hv
  replace h := q_be h
  obtain ⟨g16, hv, h⟩ := h
  replace hv := q_wI_e hv
  obtain ⟨_, _, cg16, pg16, ig16, yg16⟩ := hv
  replace h := q_be h
  obtain ⟨v17, hv, h⟩ := h
  replace hv := q_fI_e hv
  obtain ⟨_, cv17, dv17⟩ := hv
  replace h := q_be h
  obtain ⟨g18, hv, h⟩ := h
  replace hv := q_sI_e hv
  obtain ⟨_, cg18, dg18, yg18⟩ := hv
  cases h
  exact ⟨_, _, cg12, pg12, ig12, _, yg12, ⟨some _, rfl⟩, _, _, cv13, dv13, ⟨some _, rfl⟩, _, _, cv15, dv15, _, _, cg16, pg16, ig16, _, yg16, ⟨some _, rfl⟩, rfl, _, _, cv17, dv17, _, cg18, dg18, rfl, rfl, _, yg18, rfl, rfl, hk⟩
noncomputable def jX12_linesOf_321_28 (g : ps_G) (x0 : Nat) (x1 : Int32) (x2 : Int32) (x3 : Int32) (x4 : Int32) (x5 : Int32) (x6 : Int32) (x7 : Int32) (x8 : Int32) (x9 : Int32) : Option ((Int32 × Int32 × Int32 × Int32 × Int32 × ps_G) ⊕ (Int32 × Int32 × Int32 × Int32 × ps_G)) := some (.inl (x4, x5, x6, x7, x9 + (1 : Int32), g))
theorem pjX12_linesOf_321_28 {d : Nat} {Q : ps_Rs → ps_G → Prop} {g : ps_G} {x0 : Nat} {x1 : Int32} {x2 : Int32} {x3 : Int32} {x4 : Int32} {x5 : Int32} {x6 : Int32} {x7 : Int32} {x8 : Int32} {x9 : Int32} {x : (Int32 × Int32 × Int32 × Int32 × Int32 × ps_G) ⊕ (Int32 × Int32 × Int32 × Int32 × ps_G)} (h : jX12_linesOf_321_28 g x0 x1 x2 x3 x4 x5 x6 x7 x8 x9 = some x) (hh : ∀ s' : Int32 × Int32 × Int32 × Int32 × Int32 × ps_G, x = .inl s' → ps_At mX12_linesOf (d + 1) 28 [(0, .ref x0), (1, .int x1), (2, .int x2), (3, .int x3), (4, .int s'.1), (5, .int s'.2.1), (6, .int s'.2.2.1), (7, .int s'.2.2.2.1), (8, .int x8), (9, .int s'.2.2.2.2.1)] [] s'.2.2.2.2.2 Q) (he : ∀ r' : Int32 × Int32 × Int32 × Int32 × ps_G, x = .inr r' → ps_At mX12_linesOf (d + 1) 327 [(0, .ref x0), (4, .int r'.1), (5, .int r'.2.1), (6, .int r'.2.2.1), (7, .int r'.2.2.2.1), (8, .int x8)] [] r'.2.2.2.2 Q) : ps_At mX12_linesOf (d + 1) 321 [(0, .ref x0), (1, .int x1), (2, .int x2), (3, .int x3), (4, .int x4), (5, .int x5), (6, .int x6), (7, .int x7), (8, .int x8), (9, .int x9)] [] g Q := by
  unfold jX12_linesOf_321_28 at h
  refine sX12_linesOf_321 ?_
  refine ⟨by decide, ?_⟩
  exact ps_weak (hh (x4, x5, x6, x7, x9 + (1 : Int32), g) (Option.some.inj h).symm) ⟨rfl, rfl, rfl, rfl, rfl, rfl, rfl, rfl, rfl, rfl, trivial⟩
noncomputable def jX12_linesOf_313_28 (g : ps_G) (x0 : Nat) (x1 : Int32) (x2 : Int32) (x3 : Int32) (x4 : Int32) (x5 : Int32) (x8 : Int32) (x9 : Int32) (x10 : Int32) (x11 : Int32) : Option ((Int32 × Int32 × Int32 × Int32 × Int32 × ps_G) ⊕ (Int32 × Int32 × Int32 × Int32 × ps_G)) := jX12_linesOf_321_28 g x0 x1 x2 x3 x4 x5 x10 x11 x8 x9
theorem pjX12_linesOf_313_28 {d : Nat} {Q : ps_Rs → ps_G → Prop} {g : ps_G} {x0 : Nat} {x1 : Int32} {x2 : Int32} {x3 : Int32} {x4 : Int32} {x5 : Int32} {x8 : Int32} {x9 : Int32} {x10 : Int32} {x11 : Int32} {x : (Int32 × Int32 × Int32 × Int32 × Int32 × ps_G) ⊕ (Int32 × Int32 × Int32 × Int32 × ps_G)} (h : jX12_linesOf_313_28 g x0 x1 x2 x3 x4 x5 x8 x9 x10 x11 = some x) (hh : ∀ s' : Int32 × Int32 × Int32 × Int32 × Int32 × ps_G, x = .inl s' → ps_At mX12_linesOf (d + 1) 28 [(0, .ref x0), (1, .int x1), (2, .int x2), (3, .int x3), (4, .int s'.1), (5, .int s'.2.1), (6, .int s'.2.2.1), (7, .int s'.2.2.2.1), (8, .int x8), (9, .int s'.2.2.2.2.1)] [] s'.2.2.2.2.2 Q) (he : ∀ r' : Int32 × Int32 × Int32 × Int32 × ps_G, x = .inr r' → ps_At mX12_linesOf (d + 1) 327 [(0, .ref x0), (4, .int r'.1), (5, .int r'.2.1), (6, .int r'.2.2.1), (7, .int r'.2.2.2.1), (8, .int x8)] [] r'.2.2.2.2 Q) : ps_At mX12_linesOf (d + 1) 313 [(0, .ref x0), (1, .int x1), (2, .int x2), (3, .int x3), (4, .int x4), (5, .int x5), (8, .int x8), (9, .int x9), (10, .int x10), (11, .int x11)] [] g Q := by
  unfold jX12_linesOf_313_28 at h
  refine sX12_linesOf_313 ?_
  refine ⟨by decide, by decide, ?_⟩
  exact ps_weak (pjX12_linesOf_321_28 h hh he) ⟨rfl, rfl, rfl, rfl, rfl, rfl, rfl, rfl, rfl, rfl, trivial⟩
noncomputable def jX12_linesOf_104_28 (g : ps_G) (x0 : Nat) (x1 : Int32) (x2 : Int32) (x3 : Int32) (x8 : Int32) (x9 : Int32) (x10 : Int32) (x11 : Int32) : Option ((Int32 × Int32 × Int32 × Int32 × Int32 × ps_G) ⊕ (Int32 × Int32 × Int32 × Int32 × ps_G)) := jX12_linesOf_313_28 g x0 x1 x2 x3 x10 x11 x8 x9 x10 x11
theorem pjX12_linesOf_104_28 {d : Nat} {Q : ps_Rs → ps_G → Prop} {g : ps_G} {x0 : Nat} {x1 : Int32} {x2 : Int32} {x3 : Int32} {x8 : Int32} {x9 : Int32} {x10 : Int32} {x11 : Int32} {x : (Int32 × Int32 × Int32 × Int32 × Int32 × ps_G) ⊕ (Int32 × Int32 × Int32 × Int32 × ps_G)} (h : jX12_linesOf_104_28 g x0 x1 x2 x3 x8 x9 x10 x11 = some x) (hh : ∀ s' : Int32 × Int32 × Int32 × Int32 × Int32 × ps_G, x = .inl s' → ps_At mX12_linesOf (d + 1) 28 [(0, .ref x0), (1, .int x1), (2, .int x2), (3, .int x3), (4, .int s'.1), (5, .int s'.2.1), (6, .int s'.2.2.1), (7, .int s'.2.2.2.1), (8, .int x8), (9, .int s'.2.2.2.2.1)] [] s'.2.2.2.2.2 Q) (he : ∀ r' : Int32 × Int32 × Int32 × Int32 × ps_G, x = .inr r' → ps_At mX12_linesOf (d + 1) 327 [(0, .ref x0), (4, .int r'.1), (5, .int r'.2.1), (6, .int r'.2.2.1), (7, .int r'.2.2.2.1), (8, .int x8)] [] r'.2.2.2.2 Q) : ps_At mX12_linesOf (d + 1) 104 [(0, .ref x0), (1, .int x1), (2, .int x2), (3, .int x3), (8, .int x8), (9, .int x9), (10, .int x10), (11, .int x11)] [] g Q := by
  unfold jX12_linesOf_104_28 at h
  refine sX12_linesOf_104 ?_
  refine ⟨by decide, by decide, ?_⟩
  exact ps_weak (pjX12_linesOf_313_28 h hh he) ⟨rfl, rfl, rfl, rfl, rfl, rfl, rfl, rfl, rfl, rfl, trivial⟩
noncomputable def jX12_linesOf_87_28 (g : ps_G) (x0 : Nat) (x1 : Int32) (x2 : Int32) (x3 : Int32) (x4 : Int32) (x5 : Int32) (x6 : Int32) (x7 : Int32) (x8 : Int32) (x9 : Int32) (x10 : Int32) (x11 : Int32) : Option ((Int32 × Int32 × Int32 × Int32 × Int32 × ps_G) ⊕ (Int32 × Int32 × Int32 × Int32 × ps_G)) := if x9 ≤ 0 then (jX12_linesOf_104_28 g x0 x1 x2 x3 x8 x9 x10 x11) else (Option.bind (q_ob 12 g x0) fun u16 => Option.bind (fX12_line g x0 x6 x7 x4 x5) fun v17 => jX12_linesOf_104_28 v17 x0 x1 x2 x3 x8 x9 x10 x11)
theorem pjX12_linesOf_87_28 {d : Nat} {Q : ps_Rs → ps_G → Prop} {g : ps_G} {x0 : Nat} {x1 : Int32} {x2 : Int32} {x3 : Int32} {x4 : Int32} {x5 : Int32} {x6 : Int32} {x7 : Int32} {x8 : Int32} {x9 : Int32} {x10 : Int32} {x11 : Int32} {x : (Int32 × Int32 × Int32 × Int32 × Int32 × ps_G) ⊕ (Int32 × Int32 × Int32 × Int32 × ps_G)} (h : jX12_linesOf_87_28 g x0 x1 x2 x3 x4 x5 x6 x7 x8 x9 x10 x11 = some x) (hh : ∀ s' : Int32 × Int32 × Int32 × Int32 × Int32 × ps_G, x = .inl s' → ps_At mX12_linesOf (d + 1) 28 [(0, .ref x0), (1, .int x1), (2, .int x2), (3, .int x3), (4, .int s'.1), (5, .int s'.2.1), (6, .int s'.2.2.1), (7, .int s'.2.2.2.1), (8, .int x8), (9, .int s'.2.2.2.2.1)] [] s'.2.2.2.2.2 Q) (he : ∀ r' : Int32 × Int32 × Int32 × Int32 × ps_G, x = .inr r' → ps_At mX12_linesOf (d + 1) 327 [(0, .ref x0), (4, .int r'.1), (5, .int r'.2.1), (6, .int r'.2.2.1), (7, .int r'.2.2.2.1), (8, .int x8)] [] r'.2.2.2.2 Q) : ps_At mX12_linesOf (d + 1) 87 [(0, .ref x0), (1, .int x1), (2, .int x2), (3, .int x3), (4, .int x4), (5, .int x5), (6, .int x6), (7, .int x7), (8, .int x8), (9, .int x9), (10, .int x10), (11, .int x11)] [] g Q := by
  unfold jX12_linesOf_87_28 at h
  refine sX12_linesOf_87 ?_
  refine And.intro (fun hc14 => ?_) (fun hc14 => ?_)
  · replace h := q_ifp (hc14) h
    exact ps_weak (pjX12_linesOf_104_28 h hh he) ⟨rfl, rfl, rfl, rfl, rfl, rfl, rfl, rfl, trivial⟩
  · replace h := q_ifn (hc14) h
    replace h := q_be h
    obtain ⟨u16, hv, h⟩ := h
    replace hv := q_ob_e hv
    obtain ⟨_, cu16⟩ := hv
    replace h := q_be h
    obtain ⟨v17, hv, h⟩ := h
    refine ⟨⟨some _, rfl⟩, ⟨_, cu16⟩, ?_⟩
    refine rX12_line hv ?_
    exact ps_weak (pjX12_linesOf_104_28 h hh he) ⟨rfl, rfl, rfl, rfl, rfl, rfl, rfl, rfl, trivial⟩
noncomputable def bX12_linesOf_204 (x0 : Nat) (x1 : Int32) (x2 : Int32) (x3 : Int32) (x4 : Int32) (x5 : Int32) (x8 : Int32) (x9 : Int32) (x10 : Int32) (x11 : Int32) (x12 : Int32) (x13 : Int32) (x14 : Int32) (x15 : Int32) (x6 : Int32) (x7 : Int32) (x16 : Int32) (g : ps_G) : Option ((Int32 × Int32 × Int32 × ps_G) ⊕ (Int32 × Int32 × ps_G)) := if (8 : Int32) < x16 then (some (.inr (x6, x7, g))) else (Option.bind (q_ob 12 g x0) fun u41 => Option.bind (fX12_line g x0 x6 x7 (q_shr ((((x14 * ((8 : Int32) - x16)) * ((8 : Int32) - x16)) + ((((2 : Int32) * x10) * x16) * ((8 : Int32) - x16))) + ((x12 * x16) * x16)) (6 : Int32)) (q_shr ((((x15 * ((8 : Int32) - x16)) * ((8 : Int32) - x16)) + ((((2 : Int32) * x11) * x16) * ((8 : Int32) - x16))) + ((x13 * x16) * x16)) (6 : Int32))) fun v42 => some (.inl (q_shr ((((x14 * ((8 : Int32) - x16)) * ((8 : Int32) - x16)) + ((((2 : Int32) * x10) * x16) * ((8 : Int32) - x16))) + ((x12 * x16) * x16)) (6 : Int32), q_shr ((((x15 * ((8 : Int32) - x16)) * ((8 : Int32) - x16)) + ((((2 : Int32) * x11) * x16) * ((8 : Int32) - x16))) + ((x13 * x16) * x16)) (6 : Int32), x16 + (1 : Int32), v42)))
theorem pbX12_linesOf_204 {d : Nat} {Q : ps_Rs → ps_G → Prop}  {x0 : Nat} {x1 : Int32} {x2 : Int32} {x3 : Int32} {x4 : Int32} {x5 : Int32} {x8 : Int32} {x9 : Int32} {x10 : Int32} {x11 : Int32} {x12 : Int32} {x13 : Int32} {x14 : Int32} {x15 : Int32} {x6 : Int32} {x7 : Int32} {x16 : Int32} {g : ps_G} {x : (Int32 × Int32 × Int32 × ps_G) ⊕ (Int32 × Int32 × ps_G)} (h : bX12_linesOf_204 x0 x1 x2 x3 x4 x5 x8 x9 x10 x11 x12 x13 x14 x15 x6 x7 x16 g = some x) (hh : ∀ s' : Int32 × Int32 × Int32 × ps_G, x = .inl s' → ps_At mX12_linesOf (d + 1) 204 [(0, .ref x0), (1, .int x1), (2, .int x2), (3, .int x3), (4, .int x4), (5, .int x5), (6, .int s'.1), (7, .int s'.2.1), (8, .int x8), (9, .int x9), (10, .int x10), (11, .int x11), (12, .int x12), (13, .int x13), (14, .int x14), (15, .int x15), (16, .int s'.2.2.1)] [] s'.2.2.2 Q) (he : ∀ r' : Int32 × Int32 × ps_G, x = .inr r' → ps_At mX12_linesOf (d + 1) 310 [(0, .ref x0), (1, .int x1), (2, .int x2), (3, .int x3), (4, .int x4), (5, .int x5), (6, .int r'.1), (7, .int r'.2.1), (8, .int x8), (9, .int x9)] [] r'.2.2 Q) : ps_At mX12_linesOf (d + 1) 204 [(0, .ref x0), (1, .int x1), (2, .int x2), (3, .int x3), (4, .int x4), (5, .int x5), (6, .int x6), (7, .int x7), (8, .int x8), (9, .int x9), (10, .int x10), (11, .int x11), (12, .int x12), (13, .int x13), (14, .int x14), (15, .int x15), (16, .int x16)] [] g Q := by
  unfold bX12_linesOf_204 at h
  refine sX12_linesOf_204 ?_
  refine And.intro (fun hc39 => ?_) (fun hc39 => ?_)
  · replace h := q_ifp (hc39) h
    exact ps_weak (he (x6, x7, g) (Option.some.inj h).symm) ⟨rfl, rfl, rfl, rfl, rfl, rfl, rfl, rfl, rfl, rfl, trivial⟩
  · replace h := q_ifn (hc39) h
    replace h := q_be h
    obtain ⟨u41, hv, h⟩ := h
    replace hv := q_ob_e hv
    obtain ⟨_, cu41⟩ := hv
    replace h := q_be h
    obtain ⟨v42, hv, h⟩ := h
    refine ⟨by decide, by decide, by decide, ⟨some _, rfl⟩, ⟨_, cu41⟩, ?_⟩
    refine rX12_line hv ?_
    refine ⟨by decide, by decide, by decide, ?_⟩
    exact ps_weak (hh (q_shr ((((x14 * ((8 : Int32) - x16)) * ((8 : Int32) - x16)) + ((((2 : Int32) * x10) * x16) * ((8 : Int32) - x16))) + ((x12 * x16) * x16)) (6 : Int32), q_shr ((((x15 * ((8 : Int32) - x16)) * ((8 : Int32) - x16)) + ((((2 : Int32) * x11) * x16) * ((8 : Int32) - x16))) + ((x13 * x16) * x16)) (6 : Int32), x16 + (1 : Int32), v42) (Option.some.inj h).symm) ⟨rfl, rfl, rfl, rfl, rfl, rfl, rfl, rfl, rfl, rfl, rfl, rfl, rfl, rfl, rfl, rfl, rfl, trivial⟩
noncomputable def bX12_linesOf_28 (x0 : Nat) (x1 : Int32) (x2 : Int32) (x3 : Int32) (x8 : Int32) (x4 : Int32) (x5 : Int32) (x6 : Int32) (x7 : Int32) (x9 : Int32) (g : ps_G) : Option ((Int32 × Int32 × Int32 × Int32 × Int32 × ps_G) ⊕ (Int32 × Int32 × Int32 × Int32 × ps_G)) := if x8 ≤ x9 then (some (.inr (x4, x5, x6, x7, g))) else (Option.bind (q_fR 12 50 g x0) fun v7 => Option.bind (v7) fun a8 => Option.bind (q_aI g a8 (((40 : Int32) * x1) + x9)) fun v9 => Option.bind (q_fR 12 51 g x0) fun v10 => Option.bind (v10) fun a11 => Option.bind (q_aI g a11 (((40 : Int32) * x1) + x9)) fun v12 => if x9 = 0 then (jX12_linesOf_87_28 g x0 x1 x2 x3 x4 x5 x6 x7 x8 x9 (v9 + x2) (v12 + x3)) else (Option.bind (q_fR 12 49 g x0) fun v20 => Option.bind (v20) fun a21 => Option.bind (q_aI g a21 (((40 : Int32) * x1) + x9)) fun v22 => if ¬ v22 = 0 then (Option.bind (q_fR 12 49 g x0) fun v25 => Option.bind (v25) fun a26 => Option.bind (q_aI g a26 (((40 : Int32) * x1) + x9)) fun v27 => if ¬ v27 = (1 : Int32) then (if ¬ (x9 + (1 : Int32)) = x8 then (Option.bind (q_fR 12 50 g x0) fun v33 => Option.bind (v33) fun a34 => Option.bind (q_aI g a34 (((40 : Int32) * x1) + (x9 + (1 : Int32)))) fun v35 => Option.bind (q_fR 12 51 g x0) fun v36 => Option.bind (v36) fun a37 => Option.bind (q_aI g a37 (((40 : Int32) * x1) + (x9 + (1 : Int32)))) fun v38 => Option.bind (q_lp (fun s => bX12_linesOf_204 x0 x1 x2 x3 x4 x5 x8 (x9 + (1 : Int32)) (v9 + x2) (v12 + x3) (v35 + x2) (v38 + x3) x6 x7 s.1 s.2.1 s.2.2.1 s.2.2.2) (x6, x7, (1 : Int32), g)) fun s45 => jX12_linesOf_321_28 s45.2.2 x0 x1 x2 x3 x4 x5 s45.1 s45.2.1 x8 (x9 + (1 : Int32))) else (some (.inr (x4, x5, x6, x7, g)))) else (Option.bind (q_ob 12 g x0) fun u48 => Option.bind (fX12_line g x0 x6 x7 (v9 + x2) (v12 + x3)) fun v49 => jX12_linesOf_313_28 v49 x0 x1 x2 x3 x4 x5 x8 x9 (v9 + x2) (v12 + x3))) else (jX12_linesOf_87_28 g x0 x1 x2 x3 x4 x5 x6 x7 x8 x9 (v9 + x2) (v12 + x3))))
theorem pbX12_linesOf_28 {d : Nat} {Q : ps_Rs → ps_G → Prop}  {x0 : Nat} {x1 : Int32} {x2 : Int32} {x3 : Int32} {x8 : Int32} {x4 : Int32} {x5 : Int32} {x6 : Int32} {x7 : Int32} {x9 : Int32} {g : ps_G} {x : (Int32 × Int32 × Int32 × Int32 × Int32 × ps_G) ⊕ (Int32 × Int32 × Int32 × Int32 × ps_G)} (h : bX12_linesOf_28 x0 x1 x2 x3 x8 x4 x5 x6 x7 x9 g = some x) (hh : ∀ s' : Int32 × Int32 × Int32 × Int32 × Int32 × ps_G, x = .inl s' → ps_At mX12_linesOf (d + 1) 28 [(0, .ref x0), (1, .int x1), (2, .int x2), (3, .int x3), (4, .int s'.1), (5, .int s'.2.1), (6, .int s'.2.2.1), (7, .int s'.2.2.2.1), (8, .int x8), (9, .int s'.2.2.2.2.1)] [] s'.2.2.2.2.2 Q) (he : ∀ r' : Int32 × Int32 × Int32 × Int32 × ps_G, x = .inr r' → ps_At mX12_linesOf (d + 1) 327 [(0, .ref x0), (4, .int r'.1), (5, .int r'.2.1), (6, .int r'.2.2.1), (7, .int r'.2.2.2.1), (8, .int x8)] [] r'.2.2.2.2 Q) : ps_At mX12_linesOf (d + 1) 28 [(0, .ref x0), (1, .int x1), (2, .int x2), (3, .int x3), (4, .int x4), (5, .int x5), (6, .int x6), (7, .int x7), (8, .int x8), (9, .int x9)] [] g Q := by
  unfold bX12_linesOf_28 at h
  refine sX12_linesOf_28 ?_
  refine And.intro (fun hc5 => ?_) (fun hc5 => ?_)
  · replace h := q_ifp (hc5) h
    exact ps_weak (he (x4, x5, x6, x7, g) (Option.some.inj h).symm) ⟨rfl, rfl, rfl, rfl, rfl, rfl, trivial⟩
  · replace h := q_ifn (hc5) h
    replace h := q_be h
    obtain ⟨v7, hv, h⟩ := h
    replace hv := q_fR_e hv
    obtain ⟨_, cv7, dv7⟩ := hv
    replace h := q_be h
    obtain ⟨a8, ea8, h⟩ := h
    subst ea8
    replace h := q_be h
    obtain ⟨v9, hv, h⟩ := h
    replace hv := q_aI_e hv
    obtain ⟨_, _, cv9, iv9, yv9⟩ := hv
    replace h := q_be h
    obtain ⟨v10, hv, h⟩ := h
    replace hv := q_fR_e hv
    obtain ⟨_, cv10, dv10⟩ := hv
    replace h := q_be h
    obtain ⟨a11, ea11, h⟩ := h
    subst ea11
    replace h := q_be h
    obtain ⟨v12, hv, h⟩ := h
    replace hv := q_aI_e hv
    obtain ⟨_, _, cv12, iv12, yv12⟩ := hv
    refine ⟨⟨some _, rfl⟩, _, _, cv7, dv7, _, _, cv9, iv9, _, yv9, by decide, ⟨some _, rfl⟩, _, _, cv10, dv10, _, _, cv12, iv12, _, yv12, by decide, ?_⟩
    refine And.intro (fun hc13 => ?_) (fun hc13 => ?_)
    · replace h := q_ifp (hc13) h
      exact ps_weak (pjX12_linesOf_87_28 h hh he) ⟨rfl, rfl, rfl, rfl, rfl, rfl, rfl, rfl, rfl, rfl, rfl, rfl, trivial⟩
    · replace h := q_ifn (hc13) h
      replace h := q_be h
      obtain ⟨v20, hv, h⟩ := h
      replace hv := q_fR_e hv
      obtain ⟨_, cv20, dv20⟩ := hv
      replace h := q_be h
      obtain ⟨a21, ea21, h⟩ := h
      subst ea21
      replace h := q_be h
      obtain ⟨v22, hv, h⟩ := h
      replace hv := q_aI_e hv
      obtain ⟨_, _, cv22, iv22, yv22⟩ := hv
      refine ⟨⟨some _, rfl⟩, _, _, cv20, dv20, _, _, cv22, iv22, _, yv22, ?_⟩
      refine And.intro (fun hc23 => ?_) (fun hc23 => ?_)
      · replace h := q_ifp (hc23) h
        refine sX12_linesOf_115 ?_
        replace h := q_be h
        obtain ⟨v25, hv, h⟩ := h
        replace hv := q_fR_e hv
        obtain ⟨_, cv25, dv25⟩ := hv
        replace h := q_be h
        obtain ⟨a26, ea26, h⟩ := h
        subst ea26
        replace h := q_be h
        obtain ⟨v27, hv, h⟩ := h
        replace hv := q_aI_e hv
        obtain ⟨_, _, cv27, iv27, yv27⟩ := hv
        refine ⟨⟨some _, rfl⟩, _, _, cv25, dv25, _, _, cv27, iv27, _, yv27, ?_⟩
        refine And.intro (fun hc28 => ?_) (fun hc28 => ?_)
        · replace h := q_ifp (hc28) h
          refine sX12_linesOf_146 ?_
          refine And.intro (fun hc31 => ?_) (fun hc31 => ?_)
          · replace h := q_ifp (hc31) h
            refine sX12_linesOf_158 ?_
            replace h := q_be h
            obtain ⟨v33, hv, h⟩ := h
            replace hv := q_fR_e hv
            obtain ⟨_, cv33, dv33⟩ := hv
            replace h := q_be h
            obtain ⟨a34, ea34, h⟩ := h
            subst ea34
            replace h := q_be h
            obtain ⟨v35, hv, h⟩ := h
            replace hv := q_aI_e hv
            obtain ⟨_, _, cv35, iv35, yv35⟩ := hv
            replace h := q_be h
            obtain ⟨v36, hv, h⟩ := h
            replace hv := q_fR_e hv
            obtain ⟨_, cv36, dv36⟩ := hv
            replace h := q_be h
            obtain ⟨a37, ea37, h⟩ := h
            subst ea37
            replace h := q_be h
            obtain ⟨v38, hv, h⟩ := h
            replace hv := q_aI_e hv
            obtain ⟨_, _, cv38, iv38, yv38⟩ := hv
            refine ⟨by decide, ⟨some _, rfl⟩, _, _, cv33, dv33, _, _, cv35, iv35, _, yv35, by decide, ⟨some _, rfl⟩, _, _, cv36, dv36, _, _, cv38, iv38, _, yv38, by decide, by decide, by decide, by decide, ?_⟩
            replace h := q_be h
            obtain ⟨s45, hl, h⟩ := h
            refine ps_weak (q_lp_ok hl (fun s => ps_At mX12_linesOf (d + 1) 204 [(0, .ref x0), (1, .int x1), (2, .int x2), (3, .int x3), (4, .int x4), (5, .int x5), (6, .int s.1), (7, .int s.2.1), (8, .int x8), (9, .int (x9 + (1 : Int32))), (10, .int (v9 + x2)), (11, .int (v12 + x3)), (12, .int (v35 + x2)), (13, .int (v38 + x3)), (14, .int x6), (15, .int x7), (16, .int s.2.2.1)] [] s.2.2.2 Q) (fun r => ps_At mX12_linesOf (d + 1) 310 [(0, .ref x0), (1, .int x1), (2, .int x2), (3, .int x3), (4, .int x4), (5, .int x5), (6, .int r.1), (7, .int r.2.1), (8, .int x8), (9, .int (x9 + (1 : Int32)))] [] r.2.2 Q) (fun s x hb hh he => pbX12_linesOf_204 hb hh he) ?_) ⟨rfl, rfl, rfl, rfl, rfl, rfl, rfl, rfl, rfl, rfl, rfl, rfl, rfl, rfl, rfl, rfl, rfl, trivial⟩
            refine (?_ : ps_At mX12_linesOf (d + 1) 310 [(0, .ref x0), (1, .int x1), (2, .int x2), (3, .int x3), (4, .int x4), (5, .int x5), (6, .int s45.1), (7, .int s45.2.1), (8, .int x8), (9, .int (x9 + (1 : Int32)))] [] s45.2.2 Q)
            refine sX12_linesOf_310 ?_
            exact ps_weak (pjX12_linesOf_321_28 h hh he) ⟨rfl, rfl, rfl, rfl, rfl, rfl, rfl, rfl, rfl, rfl, trivial⟩
          · replace h := q_ifn (hc31) h
            exact ps_weak (he (x4, x5, x6, x7, g) (Option.some.inj h).symm) ⟨rfl, rfl, rfl, rfl, rfl, rfl, trivial⟩
        · replace h := q_ifn (hc28) h
          replace h := q_be h
          obtain ⟨u48, hv, h⟩ := h
          replace hv := q_ob_e hv
          obtain ⟨_, cu48⟩ := hv
          replace h := q_be h
          obtain ⟨v49, hv, h⟩ := h
          refine ⟨⟨some _, rfl⟩, ⟨_, cu48⟩, ?_⟩
          refine rX12_line hv ?_
          exact ps_weak (pjX12_linesOf_313_28 h hh he) ⟨rfl, rfl, rfl, rfl, rfl, rfl, rfl, rfl, rfl, rfl, trivial⟩
      · replace h := q_ifn (hc23) h
        exact ps_weak (pjX12_linesOf_87_28 h hh he) ⟨rfl, rfl, rfl, rfl, rfl, rfl, rfl, rfl, rfl, rfl, rfl, rfl, trivial⟩
noncomputable def jX12_linesOf_344 (g : ps_G) : Option (ps_G) := some g
theorem pjX12_linesOf_344 {d : Nat} {Q : ps_Rs → ps_G → Prop} {g : ps_G}  {r : ps_G} (h : jX12_linesOf_344 g = some r) (hk : Q (.inl none) r) : ps_At mX12_linesOf (d + 1) 344 [] [] g Q := by
  unfold jX12_linesOf_344 at h
  refine sX12_linesOf_344 ?_
  cases h
  exact ⟨rfl, rfl, hk⟩
noncomputable def jX12_linesOf_327 (g : ps_G) (x0 : Nat) (x4 : Int32) (x5 : Int32) (x6 : Int32) (x7 : Int32) (x8 : Int32) : Option (ps_G) := if x8 ≤ 0 then (jX12_linesOf_344 g) else (Option.bind (q_ob 12 g x0) fun u61 => Option.bind (fX12_line g x0 x6 x7 x4 x5) fun v62 => jX12_linesOf_344 v62)
theorem pjX12_linesOf_327 {d : Nat} {Q : ps_Rs → ps_G → Prop} {g : ps_G} {x0 : Nat} {x4 : Int32} {x5 : Int32} {x6 : Int32} {x7 : Int32} {x8 : Int32} {r : ps_G} (h : jX12_linesOf_327 g x0 x4 x5 x6 x7 x8 = some r) (hk : Q (.inl none) r) : ps_At mX12_linesOf (d + 1) 327 [(0, .ref x0), (4, .int x4), (5, .int x5), (6, .int x6), (7, .int x7), (8, .int x8)] [] g Q := by
  unfold jX12_linesOf_327 at h
  refine sX12_linesOf_327 ?_
  refine And.intro (fun hc59 => ?_) (fun hc59 => ?_)
  · replace h := q_ifp (hc59) h
    exact ps_weak (pjX12_linesOf_344 h hk) trivial
  · replace h := q_ifn (hc59) h
    replace h := q_be h
    obtain ⟨u61, hv, h⟩ := h
    replace hv := q_ob_e hv
    obtain ⟨_, cu61⟩ := hv
    replace h := q_be h
    obtain ⟨v62, hv, h⟩ := h
    refine ⟨⟨some _, rfl⟩, ⟨_, cu61⟩, ?_⟩
    refine rX12_line hv ?_
    exact ps_weak (pjX12_linesOf_344 h hk) trivial
noncomputable def fX12_linesOf (g : ps_G) (x0 : Nat) (x1 : Int32) (x2 : Int32) (x3 : Int32) : Option (ps_G) := Option.bind (q_sI 12 52 g x0 (0 : Int32)) fun g1 => Option.bind (q_fR 12 48 g1 x0) fun v2 => Option.bind (v2) fun a3 => Option.bind (q_aI g1 a3 x1) fun v4 => Option.bind (q_lp (fun s => bX12_linesOf_28 x0 x1 x2 x3 v4 s.1 s.2.1 s.2.2.1 s.2.2.2.1 s.2.2.2.2.1 s.2.2.2.2.2) ((0 : Int32), (0 : Int32), (0 : Int32), (0 : Int32), (0 : Int32), g1)) fun s58 => jX12_linesOf_327 s58.2.2.2.2 x0 s58.1 s58.2.1 s58.2.2.1 s58.2.2.2.1 v4
theorem rX12_linesOf {d : Nat} {Q : ps_Rs → ps_G → Prop} {g : ps_G} {x0 : Nat} {x1 : Int32} {x2 : Int32} {x3 : Int32} {r : ps_G} (h : fX12_linesOf g x0 x1 x2 x3 = some r) (hk : Q (.inl none) r) : ps_Ok mX12_linesOf (d + 1) [.ref x0, .int x1, .int x2, .int x3] g Q := by
  unfold fX12_linesOf at h
  refine sX12_linesOf_0 ?_
  replace h := q_be h
  obtain ⟨g1, hv, h⟩ := h
  replace hv := q_sI_e hv
  obtain ⟨_, cg1, dg1, yg1⟩ := hv
  replace h := q_be h
  obtain ⟨v2, hv, h⟩ := h
  replace hv := q_fR_e hv
  obtain ⟨_, cv2, dv2⟩ := hv
  replace h := q_be h
  obtain ⟨a3, ea3, h⟩ := h
  subst ea3
  replace h := q_be h
  obtain ⟨v4, hv, h⟩ := h
  replace hv := q_aI_e hv
  obtain ⟨_, _, cv4, iv4, yv4⟩ := hv
  refine ⟨⟨some _, rfl⟩, _, cg1, dg1, rfl, rfl, _, yg1, by decide, by decide, by decide, by decide, ⟨some _, rfl⟩, _, _, cv2, dv2, _, _, cv4, iv4, _, yv4, by decide, by decide, ?_⟩
  replace h := q_be h
  obtain ⟨s58, hl, h⟩ := h
  refine ps_weak (q_lp_ok hl (fun s => ps_At mX12_linesOf (d + 1) 28 [(0, .ref x0), (1, .int x1), (2, .int x2), (3, .int x3), (4, .int s.1), (5, .int s.2.1), (6, .int s.2.2.1), (7, .int s.2.2.2.1), (8, .int v4), (9, .int s.2.2.2.2.1)] [] s.2.2.2.2.2 Q) (fun r => ps_At mX12_linesOf (d + 1) 327 [(0, .ref x0), (4, .int r.1), (5, .int r.2.1), (6, .int r.2.2.1), (7, .int r.2.2.2.1), (8, .int v4)] [] r.2.2.2.2 Q) (fun s x hb hh he => pbX12_linesOf_28 hb hh he) ?_) ⟨rfl, rfl, rfl, rfl, rfl, rfl, rfl, rfl, rfl, rfl, trivial⟩
  refine (?_ : ps_At mX12_linesOf (d + 1) 327 [(0, .ref x0), (4, .int s58.1), (5, .int s58.2.1), (6, .int s58.2.2.1), (7, .int s58.2.2.2.1), (8, .int v4)] [] s58.2.2.2.2 Q)
  exact ps_weak (pjX12_linesOf_327 h hk) ⟨rfl, rfl, rfl, rfl, rfl, rfl, trivial⟩
noncomputable def jX12_turnsAt_141_5 (g : ps_G) (x0 : Nat) (x1 : Int32) (x2 : Int32) (x3 : Int32) (x4 : Int32) : Option ((Int32 × Int32) ⊕ (Int32)) := some (.inl (x3, x4 + (1 : Int32)))
theorem pjX12_turnsAt_141_5 {d : Nat} {Q : ps_Rs → ps_G → Prop} {g : ps_G} {x0 : Nat} {x1 : Int32} {x2 : Int32} {x3 : Int32} {x4 : Int32} {x : (Int32 × Int32) ⊕ (Int32)} (h : jX12_turnsAt_141_5 g x0 x1 x2 x3 x4 = some x) (hh : ∀ s' : Int32 × Int32, x = .inl s' → ps_At mX12_turnsAt d 5 [(0, .ref x0), (1, .int x1), (2, .int x2), (3, .int s'.1), (4, .int s'.2)] [] g Q) (he : ∀ r' : Int32, x = .inr r' → ps_At mX12_turnsAt d 147 [(3, .int r')] [] g Q) : ps_At mX12_turnsAt d 141 [(0, .ref x0), (1, .int x1), (2, .int x2), (3, .int x3), (4, .int x4)] [] g Q := by
  unfold jX12_turnsAt_141_5 at h
  refine sX12_turnsAt_141 ?_
  refine ⟨by decide, ?_⟩
  exact ps_weak (hh (x3, x4 + (1 : Int32)) (Option.some.inj h).symm) ⟨rfl, rfl, rfl, rfl, rfl, trivial⟩
noncomputable def bX12_turnsAt_5 (g : ps_G) (x0 : Nat) (x1 : Int32) (x2 : Int32) (x3 : Int32) (x4 : Int32) : Option ((Int32 × Int32) ⊕ (Int32)) := Option.bind (q_fI 12 52 g x0) fun v1 => if v1 ≤ x4 then (some (.inr x3)) else (Option.bind (q_fR 12 54 g x0) fun v4 => Option.bind (v4) fun a5 => Option.bind (q_aI g a5 x4) fun v6 => Option.bind (q_fR 12 56 g x0) fun v7 => Option.bind (v7) fun a8 => Option.bind (q_aI g a8 x4) fun v9 => if ¬ (if x2 < v6 then (0 : Int32) else (1 : Int32)) = (if x2 < v9 then (0 : Int32) else (1 : Int32)) then (Option.bind (q_fR 12 53 g x0) fun v18 => Option.bind (v18) fun a19 => Option.bind (q_aI g a19 x4) fun v20 => Option.bind (q_fR 12 55 g x0) fun v21 => Option.bind (v21) fun a22 => Option.bind (q_aI g a22 x4) fun v23 => Option.bind (q_fR 12 53 g x0) fun v24 => Option.bind (v24) fun a25 => Option.bind (q_aI g a25 x4) fun v26 => jX12_turnsAt_141_5 g x0 x1 x2 (if v6 ≤ v9 then (if v9 ≤ v6 then x3 else (if 0 ≤ (lg_cmp (((Int32.toInt64 x1) - (Int32.toInt64 v20)) * (Int32.toInt64 (v9 - v6))) (((Int32.toInt64 x2) - (Int32.toInt64 v6)) * (Int32.toInt64 (v23 - v26)))) then x3 else x3 + (1 : Int32))) else (if (lg_cmp (((Int32.toInt64 x1) - (Int32.toInt64 v20)) * (Int32.toInt64 (v9 - v6))) (((Int32.toInt64 x2) - (Int32.toInt64 v6)) * (Int32.toInt64 (v23 - v26)))) ≤ 0 then (if v9 ≤ v6 then x3 else (if 0 ≤ (lg_cmp (((Int32.toInt64 x1) - (Int32.toInt64 v20)) * (Int32.toInt64 (v9 - v6))) (((Int32.toInt64 x2) - (Int32.toInt64 v6)) * (Int32.toInt64 (v23 - v26)))) then x3 else x3 + (1 : Int32))) else (if v9 ≤ v6 then x3 else (if 0 ≤ (lg_cmp (((Int32.toInt64 x1) - (Int32.toInt64 v20)) * (Int32.toInt64 (v9 - v6))) (((Int32.toInt64 x2) - (Int32.toInt64 v6)) * (Int32.toInt64 (v23 - v26)))) then x3 else x3 + (1 : Int32))) + (-1 : Int32))) x4) else (jX12_turnsAt_141_5 g x0 x1 x2 x3 x4))
theorem pbX12_turnsAt_5 {d : Nat} {Q : ps_Rs → ps_G → Prop} {g : ps_G} {x0 : Nat} {x1 : Int32} {x2 : Int32} {x3 : Int32} {x4 : Int32} {x : (Int32 × Int32) ⊕ (Int32)} (h : bX12_turnsAt_5 g x0 x1 x2 x3 x4 = some x) (hh : ∀ s' : Int32 × Int32, x = .inl s' → ps_At mX12_turnsAt d 5 [(0, .ref x0), (1, .int x1), (2, .int x2), (3, .int s'.1), (4, .int s'.2)] [] g Q) (he : ∀ r' : Int32, x = .inr r' → ps_At mX12_turnsAt d 147 [(3, .int r')] [] g Q) : ps_At mX12_turnsAt d 5 [(0, .ref x0), (1, .int x1), (2, .int x2), (3, .int x3), (4, .int x4)] [] g Q := by
  unfold bX12_turnsAt_5 at h
  refine sX12_turnsAt_5 ?_
  replace h := q_be h
  obtain ⟨v1, hv, h⟩ := h
  replace hv := q_fI_e hv
  obtain ⟨_, cv1, dv1⟩ := hv
  refine ⟨⟨some _, rfl⟩, _, _, cv1, dv1, ?_⟩
  refine And.intro (fun hc2 => ?_) (fun hc2 => ?_)
  · replace h := q_ifp (hc2) h
    exact ps_weak (he x3 (Option.some.inj h).symm) ⟨rfl, trivial⟩
  · replace h := q_ifn (hc2) h
    replace h := q_be h
    obtain ⟨v4, hv, h⟩ := h
    replace hv := q_fR_e hv
    obtain ⟨_, cv4, dv4⟩ := hv
    replace h := q_be h
    obtain ⟨a5, ea5, h⟩ := h
    subst ea5
    replace h := q_be h
    obtain ⟨v6, hv, h⟩ := h
    replace hv := q_aI_e hv
    obtain ⟨_, _, cv6, iv6, yv6⟩ := hv
    replace h := q_be h
    obtain ⟨v7, hv, h⟩ := h
    replace hv := q_fR_e hv
    obtain ⟨_, cv7, dv7⟩ := hv
    replace h := q_be h
    obtain ⟨a8, ea8, h⟩ := h
    subst ea8
    replace h := q_be h
    obtain ⟨v9, hv, h⟩ := h
    replace hv := q_aI_e hv
    obtain ⟨_, _, cv9, iv9, yv9⟩ := hv
    have kJ12 : ∀ w11 : Int32, w11 = (if x2 < v6 then (0 : Int32) else (1 : Int32)) → ps_At mX12_turnsAt d 43 [(0, .ref x0), (1, .int x1), (2, .int x2), (3, .int x3), (4, .int x4), (5, .int v6), (6, .int v9)] [.int w11] g Q := by
      rintro _ rfl
      refine sX12_turnsAt_43 ?_
      have kJ15 : ∀ w14 : Int32, w14 = (if x2 < v9 then (0 : Int32) else (1 : Int32)) → ps_At mX12_turnsAt d 54 [(0, .ref x0), (1, .int x1), (2, .int x2), (3, .int x3), (4, .int x4), (5, .int v6), (6, .int v9)] [.int w14, .int (if x2 < v6 then (0 : Int32) else (1 : Int32))] g Q := by
        rintro _ rfl
        refine sX12_turnsAt_54 ?_
        refine And.intro (fun hc16 => ?_) (fun hc16 => ?_)
        · replace h := q_ifp (hc16) h
          refine sX12_turnsAt_60 ?_
          replace h := q_be h
          obtain ⟨v18, hv, h⟩ := h
          replace hv := q_fR_e hv
          obtain ⟨_, cv18, dv18⟩ := hv
          replace h := q_be h
          obtain ⟨a19, ea19, h⟩ := h
          subst ea19
          replace h := q_be h
          obtain ⟨v20, hv, h⟩ := h
          replace hv := q_aI_e hv
          obtain ⟨_, _, cv20, iv20, yv20⟩ := hv
          replace h := q_be h
          obtain ⟨v21, hv, h⟩ := h
          replace hv := q_fR_e hv
          obtain ⟨_, cv21, dv21⟩ := hv
          replace h := q_be h
          obtain ⟨a22, ea22, h⟩ := h
          subst ea22
          replace h := q_be h
          obtain ⟨v23, hv, h⟩ := h
          replace hv := q_aI_e hv
          obtain ⟨_, _, cv23, iv23, yv23⟩ := hv
          replace h := q_be h
          obtain ⟨v24, hv, h⟩ := h
          replace hv := q_fR_e hv
          obtain ⟨_, cv24, dv24⟩ := hv
          replace h := q_be h
          obtain ⟨a25, ea25, h⟩ := h
          subst ea25
          replace h := q_be h
          obtain ⟨v26, hv, h⟩ := h
          replace hv := q_aI_e hv
          obtain ⟨_, _, cv26, iv26, yv26⟩ := hv
          have kJ29 : ∀ w28 : Int32, w28 = (if v9 ≤ v6 then x3 else (if 0 ≤ (lg_cmp (((Int32.toInt64 x1) - (Int32.toInt64 v20)) * (Int32.toInt64 (v9 - v6))) (((Int32.toInt64 x2) - (Int32.toInt64 v6)) * (Int32.toInt64 (v23 - v26)))) then x3 else x3 + (1 : Int32))) → ps_At mX12_turnsAt d 123 [(0, .ref x0), (1, .int x1), (2, .int x2), (3, .int w28), (4, .int x4), (5, .int v6), (6, .int v9), (7, .long (((Int32.toInt64 x1) - (Int32.toInt64 v20)) * (Int32.toInt64 (v9 - v6)))), (9, .long (((Int32.toInt64 x2) - (Int32.toInt64 v6)) * (Int32.toInt64 (v23 - v26))))] [] g Q := by
            rintro _ rfl
            refine sX12_turnsAt_123 ?_
            have kJ32 : ∀ w31 : Int32, w31 = (if v6 ≤ v9 then (if v9 ≤ v6 then x3 else (if 0 ≤ (lg_cmp (((Int32.toInt64 x1) - (Int32.toInt64 v20)) * (Int32.toInt64 (v9 - v6))) (((Int32.toInt64 x2) - (Int32.toInt64 v6)) * (Int32.toInt64 (v23 - v26)))) then x3 else x3 + (1 : Int32))) else (if (lg_cmp (((Int32.toInt64 x1) - (Int32.toInt64 v20)) * (Int32.toInt64 (v9 - v6))) (((Int32.toInt64 x2) - (Int32.toInt64 v6)) * (Int32.toInt64 (v23 - v26)))) ≤ 0 then (if v9 ≤ v6 then x3 else (if 0 ≤ (lg_cmp (((Int32.toInt64 x1) - (Int32.toInt64 v20)) * (Int32.toInt64 (v9 - v6))) (((Int32.toInt64 x2) - (Int32.toInt64 v6)) * (Int32.toInt64 (v23 - v26)))) then x3 else x3 + (1 : Int32))) else (if v9 ≤ v6 then x3 else (if 0 ≤ (lg_cmp (((Int32.toInt64 x1) - (Int32.toInt64 v20)) * (Int32.toInt64 (v9 - v6))) (((Int32.toInt64 x2) - (Int32.toInt64 v6)) * (Int32.toInt64 (v23 - v26)))) then x3 else x3 + (1 : Int32))) + (-1 : Int32))) → ps_At mX12_turnsAt d 141 [(0, .ref x0), (1, .int x1), (2, .int x2), (3, .int w31), (4, .int x4)] [] g Q := by
              rintro _ rfl
              exact ps_weak (pjX12_turnsAt_141_5 h hh he) ⟨rfl, rfl, rfl, rfl, rfl, trivial⟩
            refine And.intro (fun hc30 => ?_) (fun hc30 => ?_)
            · exact ps_weak (kJ32 _ (if_pos (hc30)).symm) ⟨rfl, rfl, rfl, rfl, rfl, trivial⟩
            · have kJ35 : ∀ w34 : Int32, w34 = (if (lg_cmp (((Int32.toInt64 x1) - (Int32.toInt64 v20)) * (Int32.toInt64 (v9 - v6))) (((Int32.toInt64 x2) - (Int32.toInt64 v6)) * (Int32.toInt64 (v23 - v26)))) ≤ 0 then (if v9 ≤ v6 then x3 else (if 0 ≤ (lg_cmp (((Int32.toInt64 x1) - (Int32.toInt64 v20)) * (Int32.toInt64 (v9 - v6))) (((Int32.toInt64 x2) - (Int32.toInt64 v6)) * (Int32.toInt64 (v23 - v26)))) then x3 else x3 + (1 : Int32))) else (if v9 ≤ v6 then x3 else (if 0 ≤ (lg_cmp (((Int32.toInt64 x1) - (Int32.toInt64 v20)) * (Int32.toInt64 (v9 - v6))) (((Int32.toInt64 x2) - (Int32.toInt64 v6)) * (Int32.toInt64 (v23 - v26)))) then x3 else x3 + (1 : Int32))) + (-1 : Int32)) → ps_At mX12_turnsAt d 141 [(0, .ref x0), (1, .int x1), (2, .int x2), (3, .int w34), (4, .int x4)] [] g Q := by
                rintro _ rfl
                exact ps_weak (kJ32 _ (if_neg (hc30)).symm) ⟨rfl, rfl, rfl, rfl, rfl, trivial⟩
              refine And.intro (fun hc33 => ?_) (fun hc33 => ?_)
              · exact ps_weak (kJ35 _ (if_pos (hc33)).symm) ⟨rfl, rfl, rfl, rfl, rfl, trivial⟩
              · refine ⟨by decide, ?_⟩
                exact ps_weak (kJ35 _ (if_neg (hc33)).symm) ⟨rfl, rfl, rfl, rfl, rfl, trivial⟩
          refine ⟨⟨some _, rfl⟩, _, _, cv18, dv18, _, _, cv20, iv20, _, yv20, by decide, ⟨some _, rfl⟩, _, _, cv21, dv21, _, _, cv23, iv23, _, yv23, ⟨some _, rfl⟩, _, _, cv24, dv24, _, _, cv26, iv26, _, yv26, by decide, ?_⟩
          refine And.intro (fun hc27 => ?_) (fun hc27 => ?_)
          · exact ps_weak (kJ29 _ (if_pos (hc27)).symm) ⟨rfl, rfl, rfl, rfl, rfl, rfl, rfl, rfl, rfl, trivial⟩
          · have kJ38 : ∀ w37 : Int32, w37 = (if 0 ≤ (lg_cmp (((Int32.toInt64 x1) - (Int32.toInt64 v20)) * (Int32.toInt64 (v9 - v6))) (((Int32.toInt64 x2) - (Int32.toInt64 v6)) * (Int32.toInt64 (v23 - v26)))) then x3 else x3 + (1 : Int32)) → ps_At mX12_turnsAt d 123 [(0, .ref x0), (1, .int x1), (2, .int x2), (3, .int w37), (4, .int x4), (5, .int v6), (6, .int v9), (7, .long (((Int32.toInt64 x1) - (Int32.toInt64 v20)) * (Int32.toInt64 (v9 - v6)))), (9, .long (((Int32.toInt64 x2) - (Int32.toInt64 v6)) * (Int32.toInt64 (v23 - v26))))] [] g Q := by
              rintro _ rfl
              exact ps_weak (kJ29 _ (if_neg (hc27)).symm) ⟨rfl, rfl, rfl, rfl, rfl, rfl, rfl, rfl, rfl, trivial⟩
            refine And.intro (fun hc36 => ?_) (fun hc36 => ?_)
            · exact ps_weak (kJ38 _ (if_pos (hc36)).symm) ⟨rfl, rfl, rfl, rfl, rfl, rfl, rfl, rfl, rfl, trivial⟩
            · refine ⟨by decide, ?_⟩
              exact ps_weak (kJ38 _ (if_neg (hc36)).symm) ⟨rfl, rfl, rfl, rfl, rfl, rfl, rfl, rfl, rfl, trivial⟩
        · replace h := q_ifn (hc16) h
          exact ps_weak (pjX12_turnsAt_141_5 h hh he) ⟨rfl, rfl, rfl, rfl, rfl, trivial⟩
      refine And.intro (fun hc13 => ?_) (fun hc13 => ?_)
      · refine sX12_turnsAt_53 ?_
        exact ps_weak (kJ15 _ (if_pos (hc13)).symm) ⟨rfl, rfl, rfl, rfl, rfl, rfl, rfl, trivial⟩
      · exact ps_weak (kJ15 _ (if_neg (hc13)).symm) ⟨rfl, rfl, rfl, rfl, rfl, rfl, rfl, trivial⟩
    refine ⟨⟨some _, rfl⟩, _, _, cv4, dv4, _, _, cv6, iv6, _, yv6, by decide, ⟨some _, rfl⟩, _, _, cv7, dv7, _, _, cv9, iv9, _, yv9, by decide, ?_⟩
    refine And.intro (fun hc10 => ?_) (fun hc10 => ?_)
    · refine sX12_turnsAt_42 ?_
      exact ps_weak (kJ12 _ (if_pos (hc10)).symm) ⟨rfl, rfl, rfl, rfl, rfl, rfl, rfl, trivial⟩
    · exact ps_weak (kJ12 _ (if_neg (hc10)).symm) ⟨rfl, rfl, rfl, rfl, rfl, rfl, rfl, trivial⟩
noncomputable def fX12_turnsAt (g : ps_G) (x0 : Nat) (x1 : Int32) (x2 : Int32) : Option (Int32) := Option.bind (q_lp (fun s => bX12_turnsAt_5 g x0 x1 x2 s.1 s.2) ((0 : Int32), (0 : Int32))) fun s43 => some s43
theorem rX12_turnsAt {d : Nat} {Q : ps_Rs → ps_G → Prop} {g : ps_G} {x0 : Nat} {x1 : Int32} {x2 : Int32} {r : Int32} (h : fX12_turnsAt g x0 x1 x2 = some r) (hk : Q (.inl (some (.int r))) g) : ps_Ok mX12_turnsAt d [.ref x0, .int x1, .int x2] g Q := by
  unfold fX12_turnsAt at h
  refine sX12_turnsAt_0 ?_
  refine ⟨by decide, by decide, ?_⟩
  replace h := q_be h
  obtain ⟨s43, hl, h⟩ := h
  refine ps_weak (q_lp_ok hl (fun s => ps_At mX12_turnsAt d 5 [(0, .ref x0), (1, .int x1), (2, .int x2), (3, .int s.1), (4, .int s.2)] [] g Q) (fun r => ps_At mX12_turnsAt d 147 [(3, .int r)] [] g Q) (fun s x hb hh he => pbX12_turnsAt_5 hb hh he) ?_) ⟨rfl, rfl, rfl, rfl, rfl, trivial⟩
  refine (?_ : ps_At mX12_turnsAt d 147 [(3, .int s43)] [] g Q)
  refine sX12_turnsAt_147 ?_
  cases h
  exact ⟨rfl, hk⟩
noncomputable def jX12_shapeOfPath_101_38 (g : ps_G) (x0 : Nat) (x2 : Int32) (x5 : Int32) (x6 : Int32) (x7 : Int32) (x8 : Int32) : Option ((Int32 × Int32) ⊕ (Int32)) := some (.inl (x7, x8 + (1 : Int32)))
theorem pjX12_shapeOfPath_101_38 {d : Nat} {Q : ps_Rs → ps_G → Prop} {g : ps_G} {x0 : Nat} {x2 : Int32} {x5 : Int32} {x6 : Int32} {x7 : Int32} {x8 : Int32} {x : (Int32 × Int32) ⊕ (Int32)} (h : jX12_shapeOfPath_101_38 g x0 x2 x5 x6 x7 x8 = some x) (hh : ∀ s' : Int32 × Int32, x = .inl s' → ps_At mX12_shapeOfPath (d + 2) 38 [(0, .ref x0), (2, .int x2), (5, .int x5), (6, .int x6), (7, .int s'.1), (8, .int s'.2)] [] g Q) (he : ∀ r' : Int32, x = .inr r' → ps_At mX12_shapeOfPath (d + 2) 107 [(0, .ref x0), (2, .int x2), (5, .int x5), (6, .int x6), (7, .int r')] [] g Q) : ps_At mX12_shapeOfPath (d + 2) 101 [(0, .ref x0), (2, .int x2), (5, .int x5), (6, .int x6), (7, .int x7), (8, .int x8)] [] g Q := by
  unfold jX12_shapeOfPath_101_38 at h
  refine sX12_shapeOfPath_101 ?_
  refine ⟨by decide, ?_⟩
  exact ps_weak (hh (x7, x8 + (1 : Int32)) (Option.some.inj h).symm) ⟨rfl, rfl, rfl, rfl, rfl, rfl, trivial⟩
noncomputable def jX12_shapeOfPath_98_38 (g : ps_G) (x0 : Nat) (x2 : Int32) (x5 : Int32) (x6 : Int32) (x7 : Int32) (x8 : Int32) : Option ((Int32 × Int32) ⊕ (Int32)) := jX12_shapeOfPath_101_38 g x0 x2 x5 x6 (x7 + (1 : Int32)) x8
theorem pjX12_shapeOfPath_98_38 {d : Nat} {Q : ps_Rs → ps_G → Prop} {g : ps_G} {x0 : Nat} {x2 : Int32} {x5 : Int32} {x6 : Int32} {x7 : Int32} {x8 : Int32} {x : (Int32 × Int32) ⊕ (Int32)} (h : jX12_shapeOfPath_98_38 g x0 x2 x5 x6 x7 x8 = some x) (hh : ∀ s' : Int32 × Int32, x = .inl s' → ps_At mX12_shapeOfPath (d + 2) 38 [(0, .ref x0), (2, .int x2), (5, .int x5), (6, .int x6), (7, .int s'.1), (8, .int s'.2)] [] g Q) (he : ∀ r' : Int32, x = .inr r' → ps_At mX12_shapeOfPath (d + 2) 107 [(0, .ref x0), (2, .int x2), (5, .int x5), (6, .int x6), (7, .int r')] [] g Q) : ps_At mX12_shapeOfPath (d + 2) 98 [(0, .ref x0), (2, .int x2), (5, .int x5), (6, .int x6), (7, .int x7), (8, .int x8)] [] g Q := by
  unfold jX12_shapeOfPath_98_38 at h
  refine sX12_shapeOfPath_98 ?_
  refine ⟨by decide, ?_⟩
  exact ps_weak (pjX12_shapeOfPath_101_38 h hh he) ⟨rfl, rfl, rfl, rfl, rfl, rfl, trivial⟩
noncomputable def bX12_shapeOfPath_38 (g : ps_G) (x0 : Nat) (x2 : Int32) (x5 : Int32) (x6 : Int32) (x7 : Int32) (x8 : Int32) : Option ((Int32 × Int32) ⊕ (Int32)) := if (16 : Int32) ≤ x8 then (some (.inr x7)) else (Option.bind (q_ob 12 g x0) fun u9 => Option.bind (fX12_turnsAt g x0 ((((16 : Int32) * x6) + ((4 : Int32) * (q_rem x8 (4 : Int32)))) + (2 : Int32)) ((((16 : Int32) * x5) + ((4 : Int32) * (x8 / (4 : Int32)))) + (2 : Int32))) fun v10 => if ¬ x2 = 0 then (if (q_rem v10 (2 : Int32)) = 0 then (jX12_shapeOfPath_101_38 g x0 x2 x5 x6 x7 x8) else (jX12_shapeOfPath_98_38 g x0 x2 x5 x6 x7 x8)) else (if v10 = 0 then (jX12_shapeOfPath_101_38 g x0 x2 x5 x6 x7 x8) else (jX12_shapeOfPath_98_38 g x0 x2 x5 x6 x7 x8)))
theorem pbX12_shapeOfPath_38 {d : Nat} {Q : ps_Rs → ps_G → Prop} {g : ps_G} {x0 : Nat} {x2 : Int32} {x5 : Int32} {x6 : Int32} {x7 : Int32} {x8 : Int32} {x : (Int32 × Int32) ⊕ (Int32)} (h : bX12_shapeOfPath_38 g x0 x2 x5 x6 x7 x8 = some x) (hh : ∀ s' : Int32 × Int32, x = .inl s' → ps_At mX12_shapeOfPath (d + 2) 38 [(0, .ref x0), (2, .int x2), (5, .int x5), (6, .int x6), (7, .int s'.1), (8, .int s'.2)] [] g Q) (he : ∀ r' : Int32, x = .inr r' → ps_At mX12_shapeOfPath (d + 2) 107 [(0, .ref x0), (2, .int x2), (5, .int x5), (6, .int x6), (7, .int r')] [] g Q) : ps_At mX12_shapeOfPath (d + 2) 38 [(0, .ref x0), (2, .int x2), (5, .int x5), (6, .int x6), (7, .int x7), (8, .int x8)] [] g Q := by
  unfold bX12_shapeOfPath_38 at h
  refine sX12_shapeOfPath_38 ?_
  refine And.intro (fun hc7 => ?_) (fun hc7 => ?_)
  · replace h := q_ifp (hc7) h
    exact ps_weak (he x7 (Option.some.inj h).symm) ⟨rfl, rfl, rfl, rfl, rfl, trivial⟩
  · replace h := q_ifn (hc7) h
    replace h := q_be h
    obtain ⟨u9, hv, h⟩ := h
    replace hv := q_ob_e hv
    obtain ⟨_, cu9⟩ := hv
    replace h := q_be h
    obtain ⟨v10, hv, h⟩ := h
    refine ⟨⟨some _, rfl⟩, by decide, _, rfl, by decide, _, rfl, ⟨_, cu9⟩, ?_⟩
    refine rX12_turnsAt hv ?_
    refine ⟨by decide, ?_⟩
    refine And.intro (fun hc11 => ?_) (fun hc11 => ?_)
    · replace h := q_ifp (hc11) h
      refine sX12_shapeOfPath_91 ?_
      refine ⟨by decide, _, rfl, ?_⟩
      refine And.intro (fun hc13 => ?_) (fun hc13 => ?_)
      · replace h := q_ifp (hc13) h
        exact ps_weak (pjX12_shapeOfPath_101_38 h hh he) ⟨rfl, rfl, rfl, rfl, rfl, rfl, trivial⟩
      · replace h := q_ifn (hc13) h
        exact ps_weak (pjX12_shapeOfPath_98_38 h hh he) ⟨rfl, rfl, rfl, rfl, rfl, rfl, trivial⟩
    · replace h := q_ifn (hc11) h
      refine And.intro (fun hc16 => ?_) (fun hc16 => ?_)
      · replace h := q_ifp (hc16) h
        exact ps_weak (pjX12_shapeOfPath_101_38 h hh he) ⟨rfl, rfl, rfl, rfl, rfl, rfl, trivial⟩
      · replace h := q_ifn (hc16) h
        exact ps_weak (pjX12_shapeOfPath_98_38 h hh he) ⟨rfl, rfl, rfl, rfl, rfl, rfl, trivial⟩
noncomputable def bX12_shapeOfPath_23 (x0 : Nat) (x2 : Int32) (x5 : Int32) (x6 : Int32) (g : ps_G) : Option ((Int32 × ps_G) ⊕ (ps_G)) := Option.bind (q_fI 12 13 g x0) fun v5 => if v5 ≤ x6 then (some (.inr g)) else (Option.bind (q_lp (fun s => bX12_shapeOfPath_38 g x0 x2 x5 x6 s.1 s.2) ((0 : Int32), (0 : Int32))) fun s23 => Option.bind (q_fR 12 32 g x0) fun v24 => Option.bind (v24) fun a25 => Option.bind (q_ob 12 g x0) fun u26 => Option.bind (fX12_at g x0 x6 x5) fun v27 => Option.bind (q_wI g a25 v27 ((((255 : Int32) * s23) + (8 : Int32)) / (16 : Int32))) fun g28 => some (.inl (x6 + (1 : Int32), g28)))
theorem pbX12_shapeOfPath_23 {d : Nat} {Q : ps_Rs → ps_G → Prop}  {x0 : Nat} {x2 : Int32} {x5 : Int32} {x6 : Int32} {g : ps_G} {x : (Int32 × ps_G) ⊕ (ps_G)} (h : bX12_shapeOfPath_23 x0 x2 x5 x6 g = some x) (hh : ∀ s' : Int32 × ps_G, x = .inl s' → ps_At mX12_shapeOfPath (d + 2) 23 [(0, .ref x0), (2, .int x2), (5, .int x5), (6, .int s'.1)] [] s'.2 Q) (he : ∀ r' : ps_G, x = .inr r' → ps_At mX12_shapeOfPath (d + 2) 138 [(0, .ref x0), (2, .int x2), (5, .int x5)] [] r' Q) : ps_At mX12_shapeOfPath (d + 2) 23 [(0, .ref x0), (2, .int x2), (5, .int x5), (6, .int x6)] [] g Q := by
  unfold bX12_shapeOfPath_23 at h
  refine sX12_shapeOfPath_23 ?_
  replace h := q_be h
  obtain ⟨v5, hv, h⟩ := h
  replace hv := q_fI_e hv
  obtain ⟨_, cv5, dv5⟩ := hv
  refine ⟨⟨some _, rfl⟩, _, _, cv5, dv5, ?_⟩
  refine And.intro (fun hc6 => ?_) (fun hc6 => ?_)
  · replace h := q_ifp (hc6) h
    exact ps_weak (he g (Option.some.inj h).symm) ⟨rfl, rfl, rfl, trivial⟩
  · replace h := q_ifn (hc6) h
    refine ⟨by decide, by decide, ?_⟩
    replace h := q_be h
    obtain ⟨s23, hl, h⟩ := h
    refine ps_weak (q_lp_ok hl (fun s => ps_At mX12_shapeOfPath (d + 2) 38 [(0, .ref x0), (2, .int x2), (5, .int x5), (6, .int x6), (7, .int s.1), (8, .int s.2)] [] g Q) (fun r => ps_At mX12_shapeOfPath (d + 2) 107 [(0, .ref x0), (2, .int x2), (5, .int x5), (6, .int x6), (7, .int r)] [] g Q) (fun s x hb hh he => pbX12_shapeOfPath_38 hb hh he) ?_) ⟨rfl, rfl, rfl, rfl, rfl, rfl, trivial⟩
    refine (?_ : ps_At mX12_shapeOfPath (d + 2) 107 [(0, .ref x0), (2, .int x2), (5, .int x5), (6, .int x6), (7, .int s23)] [] g Q)
    refine sX12_shapeOfPath_107 ?_
    replace h := q_be h
    obtain ⟨v24, hv, h⟩ := h
    replace hv := q_fR_e hv
    obtain ⟨_, cv24, dv24⟩ := hv
    replace h := q_be h
    obtain ⟨a25, ea25, h⟩ := h
    subst ea25
    replace h := q_be h
    obtain ⟨u26, hv, h⟩ := h
    replace hv := q_ob_e hv
    obtain ⟨_, cu26⟩ := hv
    replace h := q_be h
    obtain ⟨v27, hv, h⟩ := h
    refine ⟨⟨some _, rfl⟩, _, _, cv24, dv24, ⟨some _, rfl⟩, ⟨_, cu26⟩, ?_⟩
    refine rX12_at hv ?_
    replace h := q_be h
    obtain ⟨g28, hv, h⟩ := h
    replace hv := q_wI_e hv
    obtain ⟨_, _, cg28, pg28, ig28, yg28⟩ := hv
    refine ⟨by decide, _, rfl, _, _, cg28, pg28, ig28, _, yg28, by decide, ?_⟩
    exact ps_weak (hh (x6 + (1 : Int32), g28) (Option.some.inj h).symm) ⟨rfl, rfl, rfl, rfl, trivial⟩
noncomputable def bX12_shapeOfPath_11 (x0 : Nat) (x2 : Int32) (x5 : Int32) (g : ps_G) : Option ((Int32 × ps_G) ⊕ (ps_G)) := Option.bind (q_fI 12 14 g x0) fun v3 => if v3 ≤ x5 then (some (.inr g)) else (Option.bind (q_lp (fun s => bX12_shapeOfPath_23 x0 x2 x5 s.1 s.2) ((0 : Int32), g)) fun s31 => some (.inl (x5 + (1 : Int32), s31)))
theorem pbX12_shapeOfPath_11 {d : Nat} {Q : ps_Rs → ps_G → Prop}  {x0 : Nat} {x2 : Int32} {x5 : Int32} {g : ps_G} {x : (Int32 × ps_G) ⊕ (ps_G)} (h : bX12_shapeOfPath_11 x0 x2 x5 g = some x) (hh : ∀ s' : Int32 × ps_G, x = .inl s' → ps_At mX12_shapeOfPath (d + 2) 11 [(0, .ref x0), (2, .int x2), (5, .int s'.1)] [] s'.2 Q) (he : ∀ r' : ps_G, x = .inr r' → ps_At mX12_shapeOfPath (d + 2) 144 [] [] r' Q) : ps_At mX12_shapeOfPath (d + 2) 11 [(0, .ref x0), (2, .int x2), (5, .int x5)] [] g Q := by
  unfold bX12_shapeOfPath_11 at h
  refine sX12_shapeOfPath_11 ?_
  replace h := q_be h
  obtain ⟨v3, hv, h⟩ := h
  replace hv := q_fI_e hv
  obtain ⟨_, cv3, dv3⟩ := hv
  refine ⟨⟨some _, rfl⟩, _, _, cv3, dv3, ?_⟩
  refine And.intro (fun hc4 => ?_) (fun hc4 => ?_)
  · replace h := q_ifp (hc4) h
    exact ps_weak (he g (Option.some.inj h).symm) trivial
  · replace h := q_ifn (hc4) h
    refine ⟨by decide, ?_⟩
    replace h := q_be h
    obtain ⟨s31, hl, h⟩ := h
    refine ps_weak (q_lp_ok hl (fun s => ps_At mX12_shapeOfPath (d + 2) 23 [(0, .ref x0), (2, .int x2), (5, .int x5), (6, .int s.1)] [] s.2 Q) (fun r => ps_At mX12_shapeOfPath (d + 2) 138 [(0, .ref x0), (2, .int x2), (5, .int x5)] [] r Q) (fun s x hb hh he => pbX12_shapeOfPath_23 hb hh he) ?_) ⟨rfl, rfl, rfl, rfl, trivial⟩
    refine (?_ : ps_At mX12_shapeOfPath (d + 2) 138 [(0, .ref x0), (2, .int x2), (5, .int x5)] [] s31 Q)
    refine sX12_shapeOfPath_138 ?_
    refine ⟨by decide, ?_⟩
    exact ps_weak (hh (x5 + (1 : Int32), s31) (Option.some.inj h).symm) ⟨rfl, rfl, rfl, trivial⟩
noncomputable def fX12_shapeOfPath (g : ps_G) (x0 : Nat) (x1 : Int32) (x2 : Int32) (x3 : Int32) (x4 : Int32) : Option (ps_G) := Option.bind (q_ob 12 g x0) fun u1 => Option.bind (fX12_linesOf g x0 x1 x3 x4) fun v2 => Option.bind (q_lp (fun s => bX12_shapeOfPath_11 x0 x2 s.1 s.2) ((0 : Int32), v2)) fun s34 => some s34
theorem rX12_shapeOfPath {d : Nat} {Q : ps_Rs → ps_G → Prop} {g : ps_G} {x0 : Nat} {x1 : Int32} {x2 : Int32} {x3 : Int32} {x4 : Int32} {r : ps_G} (h : fX12_shapeOfPath g x0 x1 x2 x3 x4 = some r) (hk : Q (.inl none) r) : ps_Ok mX12_shapeOfPath (d + 2) [.ref x0, .int x1, .int x2, .int x3, .int x4] g Q := by
  unfold fX12_shapeOfPath at h
  refine sX12_shapeOfPath_0 ?_
  replace h := q_be h
  obtain ⟨u1, hv, h⟩ := h
  replace hv := q_ob_e hv
  obtain ⟨_, cu1⟩ := hv
  replace h := q_be h
  obtain ⟨v2, hv, h⟩ := h
  refine ⟨⟨some _, rfl⟩, ⟨_, cu1⟩, ?_⟩
  refine rX12_linesOf hv ?_
  refine ⟨by decide, ?_⟩
  replace h := q_be h
  obtain ⟨s34, hl, h⟩ := h
  refine ps_weak (q_lp_ok hl (fun s => ps_At mX12_shapeOfPath (d + 2) 11 [(0, .ref x0), (2, .int x2), (5, .int s.1)] [] s.2 Q) (fun r => ps_At mX12_shapeOfPath (d + 2) 144 [] [] r Q) (fun s x hb hh he => pbX12_shapeOfPath_11 hb hh he) ?_) ⟨rfl, rfl, rfl, trivial⟩
  refine (?_ : ps_At mX12_shapeOfPath (d + 2) 144 [] [] s34 Q)
  refine sX12_shapeOfPath_144 ?_
  cases h
  exact ⟨rfl, rfl, hk⟩
noncomputable def bX12_ellipse_45 (g : ps_G) (x0 : Int32) (x1 : Int32) (x2 : Int32) (x3 : Int32) (x6 : Int64) (x8 : Int64) (x11 : Int32) (x10 : Int32) (x12 : Int32) : Option ((Int32 × Int32) ⊕ (Int32)) := if (4 : Int32) ≤ x12 then (some (.inr x10)) else (some (.inl ((if 0 < (lg_cmp ((((((Int32.toInt64 (((((8 : Int32) * x0) + ((2 : Int32) * x12)) + (1 : Int32)) - ((8 : Int32) * x2))) - x6) * ((Int32.toInt64 (((((8 : Int32) * x0) + ((2 : Int32) * x12)) + (1 : Int32)) - ((8 : Int32) * x2))) - x6)) * x8) * x8) + (((((Int32.toInt64 (((((8 : Int32) * x1) + ((2 : Int32) * x11)) + (1 : Int32)) - ((8 : Int32) * x3))) - x8) * ((Int32.toInt64 (((((8 : Int32) * x1) + ((2 : Int32) * x11)) + (1 : Int32)) - ((8 : Int32) * x3))) - x8)) * x6) * x6)) (((x6 * x6) * x8) * x8)) then x10 else x10 + (1 : Int32)), x12 + (1 : Int32))))
theorem pbX12_ellipse_45 {d : Nat} {Q : ps_Rs → ps_G → Prop} {g : ps_G} {x0 : Int32} {x1 : Int32} {x2 : Int32} {x3 : Int32} {x6 : Int64} {x8 : Int64} {x11 : Int32} {x10 : Int32} {x12 : Int32} {x : (Int32 × Int32) ⊕ (Int32)} (h : bX12_ellipse_45 g x0 x1 x2 x3 x6 x8 x11 x10 x12 = some x) (hh : ∀ s' : Int32 × Int32, x = .inl s' → ps_At mX12_ellipse d 45 [(0, .int x0), (1, .int x1), (2, .int x2), (3, .int x3), (6, .long x6), (8, .long x8), (10, .int s'.1), (11, .int x11), (12, .int s'.2)] [] g Q) (he : ∀ r' : Int32, x = .inr r' → ps_At mX12_ellipse d 142 [(0, .int x0), (1, .int x1), (2, .int x2), (3, .int x3), (6, .long x6), (8, .long x8), (10, .int r'), (11, .int x11)] [] g Q) : ps_At mX12_ellipse d 45 [(0, .int x0), (1, .int x1), (2, .int x2), (3, .int x3), (6, .long x6), (8, .long x8), (10, .int x10), (11, .int x11), (12, .int x12)] [] g Q := by
  unfold bX12_ellipse_45 at h
  refine sX12_ellipse_45 ?_
  refine And.intro (fun hc4 => ?_) (fun hc4 => ?_)
  · replace h := q_ifp (hc4) h
    exact ps_weak (he x10 (Option.some.inj h).symm) ⟨rfl, rfl, rfl, rfl, rfl, rfl, rfl, rfl, trivial⟩
  · replace h := q_ifn (hc4) h
    have kJ10 : ∀ w9 : Int32, w9 = (if 0 < (lg_cmp ((((((Int32.toInt64 (((((8 : Int32) * x0) + ((2 : Int32) * x12)) + (1 : Int32)) - ((8 : Int32) * x2))) - x6) * ((Int32.toInt64 (((((8 : Int32) * x0) + ((2 : Int32) * x12)) + (1 : Int32)) - ((8 : Int32) * x2))) - x6)) * x8) * x8) + (((((Int32.toInt64 (((((8 : Int32) * x1) + ((2 : Int32) * x11)) + (1 : Int32)) - ((8 : Int32) * x3))) - x8) * ((Int32.toInt64 (((((8 : Int32) * x1) + ((2 : Int32) * x11)) + (1 : Int32)) - ((8 : Int32) * x3))) - x8)) * x6) * x6)) (((x6 * x6) * x8) * x8)) then x10 else x10 + (1 : Int32)) → ps_At mX12_ellipse d 136 [(0, .int x0), (1, .int x1), (2, .int x2), (3, .int x3), (6, .long x6), (8, .long x8), (10, .int w9), (11, .int x11), (12, .int x12)] [] g Q := by
      rintro _ rfl
      refine sX12_ellipse_136 ?_
      refine ⟨by decide, ?_⟩
      exact ps_weak (hh ((if 0 < (lg_cmp ((((((Int32.toInt64 (((((8 : Int32) * x0) + ((2 : Int32) * x12)) + (1 : Int32)) - ((8 : Int32) * x2))) - x6) * ((Int32.toInt64 (((((8 : Int32) * x0) + ((2 : Int32) * x12)) + (1 : Int32)) - ((8 : Int32) * x2))) - x6)) * x8) * x8) + (((((Int32.toInt64 (((((8 : Int32) * x1) + ((2 : Int32) * x11)) + (1 : Int32)) - ((8 : Int32) * x3))) - x8) * ((Int32.toInt64 (((((8 : Int32) * x1) + ((2 : Int32) * x11)) + (1 : Int32)) - ((8 : Int32) * x3))) - x8)) * x6) * x6)) (((x6 * x6) * x8) * x8)) then x10 else x10 + (1 : Int32)), x12 + (1 : Int32)) (Option.some.inj h).symm) ⟨rfl, rfl, rfl, rfl, rfl, rfl, rfl, rfl, rfl, trivial⟩
    refine ⟨by decide, by decide, ?_⟩
    refine And.intro (fun hc8 => ?_) (fun hc8 => ?_)
    · exact ps_weak (kJ10 _ (if_pos (hc8)).symm) ⟨rfl, rfl, rfl, rfl, rfl, rfl, rfl, rfl, rfl, trivial⟩
    · refine ⟨by decide, ?_⟩
      exact ps_weak (kJ10 _ (if_neg (hc8)).symm) ⟨rfl, rfl, rfl, rfl, rfl, rfl, rfl, rfl, rfl, trivial⟩
noncomputable def bX12_ellipse_36 (g : ps_G) (x0 : Int32) (x1 : Int32) (x2 : Int32) (x3 : Int32) (x6 : Int64) (x8 : Int64) (x10 : Int32) (x11 : Int32) : Option ((Int32 × Int32) ⊕ (Int32)) := if (4 : Int32) ≤ x11 then (some (.inr x10)) else (Option.bind (q_lp (fun s => bX12_ellipse_45 g x0 x1 x2 x3 x6 x8 x11 s.1 s.2) (x10, (0 : Int32))) fun s13 => some (.inl (s13, x11 + (1 : Int32))))
theorem pbX12_ellipse_36 {d : Nat} {Q : ps_Rs → ps_G → Prop} {g : ps_G} {x0 : Int32} {x1 : Int32} {x2 : Int32} {x3 : Int32} {x6 : Int64} {x8 : Int64} {x10 : Int32} {x11 : Int32} {x : (Int32 × Int32) ⊕ (Int32)} (h : bX12_ellipse_36 g x0 x1 x2 x3 x6 x8 x10 x11 = some x) (hh : ∀ s' : Int32 × Int32, x = .inl s' → ps_At mX12_ellipse d 36 [(0, .int x0), (1, .int x1), (2, .int x2), (3, .int x3), (6, .long x6), (8, .long x8), (10, .int s'.1), (11, .int s'.2)] [] g Q) (he : ∀ r' : Int32, x = .inr r' → ps_At mX12_ellipse d 148 [(10, .int r')] [] g Q) : ps_At mX12_ellipse d 36 [(0, .int x0), (1, .int x1), (2, .int x2), (3, .int x3), (6, .long x6), (8, .long x8), (10, .int x10), (11, .int x11)] [] g Q := by
  unfold bX12_ellipse_36 at h
  refine sX12_ellipse_36 ?_
  refine And.intro (fun hc3 => ?_) (fun hc3 => ?_)
  · replace h := q_ifp (hc3) h
    exact ps_weak (he x10 (Option.some.inj h).symm) ⟨rfl, trivial⟩
  · replace h := q_ifn (hc3) h
    refine ⟨by decide, ?_⟩
    replace h := q_be h
    obtain ⟨s13, hl, h⟩ := h
    refine ps_weak (q_lp_ok hl (fun s => ps_At mX12_ellipse d 45 [(0, .int x0), (1, .int x1), (2, .int x2), (3, .int x3), (6, .long x6), (8, .long x8), (10, .int s.1), (11, .int x11), (12, .int s.2)] [] g Q) (fun r => ps_At mX12_ellipse d 142 [(0, .int x0), (1, .int x1), (2, .int x2), (3, .int x3), (6, .long x6), (8, .long x8), (10, .int r), (11, .int x11)] [] g Q) (fun s x hb hh he => pbX12_ellipse_45 hb hh he) ?_) ⟨rfl, rfl, rfl, rfl, rfl, rfl, rfl, rfl, rfl, trivial⟩
    refine (?_ : ps_At mX12_ellipse d 142 [(0, .int x0), (1, .int x1), (2, .int x2), (3, .int x3), (6, .long x6), (8, .long x8), (10, .int s13), (11, .int x11)] [] g Q)
    refine sX12_ellipse_142 ?_
    refine ⟨by decide, ?_⟩
    exact ps_weak (hh (s13, x11 + (1 : Int32)) (Option.some.inj h).symm) ⟨rfl, rfl, rfl, rfl, rfl, rfl, rfl, rfl, trivial⟩
noncomputable def fX12_ellipse (g : ps_G) (x0 : Int32) (x1 : Int32) (x2 : Int32) (x3 : Int32) (x4 : Int32) (x5 : Int32) : Option (Int32) := if ¬ (x4 = 0) ∧ (¬ x5 = 0) then (Option.bind (q_lp (fun s => bX12_ellipse_36 g x0 x1 x2 x3 ((4 : Int64) * (Int32.toInt64 x4)) ((4 : Int64) * (Int32.toInt64 x5)) s.1 s.2) ((0 : Int32), (0 : Int32))) fun s16 => some ((((255 : Int32) * s16) + (8 : Int32)) / (16 : Int32))) else (some (0 : Int32))
theorem rX12_ellipse {d : Nat} {Q : ps_Rs → ps_G → Prop} {g : ps_G} {x0 : Int32} {x1 : Int32} {x2 : Int32} {x3 : Int32} {x4 : Int32} {x5 : Int32} {r : Int32} (h : fX12_ellipse g x0 x1 x2 x3 x4 x5 = some r) (hk : Q (.inl (some (.int r))) g) : ps_Ok mX12_ellipse d [.int x0, .int x1, .int x2, .int x3, .int x4, .int x5] g Q := by
  unfold fX12_ellipse at h
  refine sX12_ellipse_0 ?_
  have kF18 : (some (0 : Int32)) = some r → ps_At mX12_ellipse d 10 [] [] g Q := fun h => by
    refine sX12_ellipse_10 ?_
    cases h
    exact ⟨rfl, hk⟩
  refine And.intro (fun hc1 => ?_) (fun hc1 => ?_)
  · exact ps_weak (kF18 (q_ifn (fun z => z.1 hc1) h)) trivial
  · refine And.intro (fun hc2 => ?_) (fun hc2 => ?_)
    · replace h := q_ifp (⟨hc1, hc2⟩) h
      refine sX12_ellipse_12 ?_
      refine ⟨by decide, by decide, by decide, by decide, ?_⟩
      replace h := q_be h
      obtain ⟨s16, hl, h⟩ := h
      refine ps_weak (q_lp_ok hl (fun s => ps_At mX12_ellipse d 36 [(0, .int x0), (1, .int x1), (2, .int x2), (3, .int x3), (6, .long ((4 : Int64) * (Int32.toInt64 x4))), (8, .long ((4 : Int64) * (Int32.toInt64 x5))), (10, .int s.1), (11, .int s.2)] [] g Q) (fun r => ps_At mX12_ellipse d 148 [(10, .int r)] [] g Q) (fun s x hb hh he => pbX12_ellipse_36 hb hh he) ?_) ⟨rfl, rfl, rfl, rfl, rfl, rfl, rfl, rfl, trivial⟩
      refine (?_ : ps_At mX12_ellipse d 148 [(10, .int s16)] [] g Q)
      refine sX12_ellipse_148 ?_
      cases h
      exact ⟨by decide, _, rfl, rfl, hk⟩
    · exact ps_weak (kF18 (q_ifn (fun z => hc2 z.2) h)) trivial
noncomputable def bX12_above_4 (g : ps_G) (x0 : Nat) (x1 : Int32) (x2 : Int32) : Option ((Int32 × Int32) ⊕ (Int32)) := Option.bind (q_fI 12 13 g x0) fun v1 => Option.bind (q_fI 12 14 g x0) fun v2 => if (v1 * v2) ≤ x2 then (some (.inr x1)) else (Option.bind (q_fR 12 31 g x0) fun v5 => Option.bind (v5) fun a6 => Option.bind (q_aI g a6 x2) fun v7 => some (.inl ((if v7 ≤ 0 then x1 else x1 + (1 : Int32)), x2 + (1 : Int32))))
theorem pbX12_above_4 {d : Nat} {Q : ps_Rs → ps_G → Prop} {g : ps_G} {x0 : Nat} {x1 : Int32} {x2 : Int32} {x : (Int32 × Int32) ⊕ (Int32)} (h : bX12_above_4 g x0 x1 x2 = some x) (hh : ∀ s' : Int32 × Int32, x = .inl s' → ps_At mX12_above d 4 [(0, .ref x0), (1, .int s'.1), (2, .int s'.2)] [] g Q) (he : ∀ r' : Int32, x = .inr r' → ps_At mX12_above d 40 [(1, .int r')] [] g Q) : ps_At mX12_above d 4 [(0, .ref x0), (1, .int x1), (2, .int x2)] [] g Q := by
  unfold bX12_above_4 at h
  refine sX12_above_4 ?_
  replace h := q_be h
  obtain ⟨v1, hv, h⟩ := h
  replace hv := q_fI_e hv
  obtain ⟨_, cv1, dv1⟩ := hv
  replace h := q_be h
  obtain ⟨v2, hv, h⟩ := h
  replace hv := q_fI_e hv
  obtain ⟨_, cv2, dv2⟩ := hv
  refine ⟨⟨some _, rfl⟩, _, _, cv1, dv1, ⟨some _, rfl⟩, _, _, cv2, dv2, ?_⟩
  refine And.intro (fun hc3 => ?_) (fun hc3 => ?_)
  · replace h := q_ifp (hc3) h
    exact ps_weak (he x1 (Option.some.inj h).symm) ⟨rfl, trivial⟩
  · replace h := q_ifn (hc3) h
    replace h := q_be h
    obtain ⟨v5, hv, h⟩ := h
    replace hv := q_fR_e hv
    obtain ⟨_, cv5, dv5⟩ := hv
    replace h := q_be h
    obtain ⟨a6, ea6, h⟩ := h
    subst ea6
    replace h := q_be h
    obtain ⟨v7, hv, h⟩ := h
    replace hv := q_aI_e hv
    obtain ⟨_, _, cv7, iv7, yv7⟩ := hv
    have kJ10 : ∀ w9 : Int32, w9 = (if v7 ≤ 0 then x1 else x1 + (1 : Int32)) → ps_At mX12_above d 33 [(0, .ref x0), (2, .int x2)] [.int w9] g Q := by
      rintro _ rfl
      refine sX12_above_33 ?_
      refine ⟨by decide, by decide, ?_⟩
      exact ps_weak (hh ((if v7 ≤ 0 then x1 else x1 + (1 : Int32)), x2 + (1 : Int32)) (Option.some.inj h).symm) ⟨rfl, rfl, rfl, trivial⟩
    refine ⟨⟨some _, rfl⟩, _, _, cv5, dv5, _, _, cv7, iv7, _, yv7, ?_⟩
    refine And.intro (fun hc8 => ?_) (fun hc8 => ?_)
    · refine sX12_above_32 ?_
      exact ps_weak (kJ10 _ (if_pos (hc8)).symm) ⟨rfl, rfl, trivial⟩
    · exact ps_weak (kJ10 _ (if_neg (hc8)).symm) ⟨rfl, rfl, trivial⟩
noncomputable def fX12_above (g : ps_G) (x0 : Nat) : Option (Int32) := Option.bind (q_lp (fun s => bX12_above_4 g x0 s.1 s.2) ((0 : Int32), (0 : Int32))) fun s13 => some s13
theorem rX12_above {d : Nat} {Q : ps_Rs → ps_G → Prop} {g : ps_G} {x0 : Nat} {r : Int32} (h : fX12_above g x0 = some r) (hk : Q (.inl (some (.int r))) g) : ps_Ok mX12_above d [.ref x0] g Q := by
  unfold fX12_above at h
  refine sX12_above_0 ?_
  refine ⟨by decide, by decide, ?_⟩
  replace h := q_be h
  obtain ⟨s13, hl, h⟩ := h
  refine ps_weak (q_lp_ok hl (fun s => ps_At mX12_above d 4 [(0, .ref x0), (1, .int s.1), (2, .int s.2)] [] g Q) (fun r => ps_At mX12_above d 40 [(1, .int r)] [] g Q) (fun s x hb hh he => pbX12_above_4 hb hh he) ?_) ⟨rfl, rfl, rfl, trivial⟩
  refine (?_ : ps_At mX12_above d 40 [(1, .int s13)] [] g Q)
  refine sX12_above_40 ?_
  cases h
  exact ⟨rfl, hk⟩
noncomputable def jX12_select_289_141 (g : ps_G) (x0 : Nat) (x1 : Int32) (x2 : Int32) (x3 : Int32) (x4 : Int32) (x5 : Int32) (x6 : Int32) (x8 : Int32) (x9 : Int32) (x10 : Int32) (x11 : Int32) : Option ((Int32 × ps_G) ⊕ (ps_G)) := Option.bind (q_fR 12 31 g x0) fun v40 => Option.bind (v40) fun a41 => Option.bind (q_aI g a41 x10) fun v42 => Option.bind (q_fR 12 31 g x0) fun v43 => Option.bind (v43) fun a44 => Option.bind (q_wI g a44 x10 (if ¬ x2 = 0 then (if ¬ x2 = (1 : Int32) then (if ¬ x2 = (2 : Int32) then fX12_least v42 x11 else (if 0 ≤ (v42 - x11) then v42 - x11 else (0 : Int32))) else (if v42 ≤ x11 then x11 else v42)) else x11)) fun g48 => some (.inl (x9 + (1 : Int32), g48))
theorem pjX12_select_289_141 {d : Nat} {Q : ps_Rs → ps_G → Prop} {g : ps_G} {x0 : Nat} {x1 : Int32} {x2 : Int32} {x3 : Int32} {x4 : Int32} {x5 : Int32} {x6 : Int32} {x8 : Int32} {x9 : Int32} {x10 : Int32} {x11 : Int32} {x : (Int32 × ps_G) ⊕ (ps_G)} (h : jX12_select_289_141 g x0 x1 x2 x3 x4 x5 x6 x8 x9 x10 x11 = some x) (hh : ∀ s' : Int32 × ps_G, x = .inl s' → ps_At mX12_select (d + 10) 141 [(0, .ref x0), (1, .int x1), (2, .int x2), (3, .int x3), (4, .int x4), (5, .int x5), (6, .int x6), (8, .int x8), (9, .int s'.1)] [] s'.2 Q) (he : ∀ r' : ps_G, x = .inr r' → ps_At mX12_select (d + 10) 374 [(0, .ref x0), (1, .int x1), (2, .int x2), (3, .int x3), (4, .int x4), (5, .int x5), (6, .int x6), (8, .int x8)] [] r' Q) : ps_At mX12_select (d + 10) 289 [(0, .ref x0), (1, .int x1), (2, .int x2), (3, .int x3), (4, .int x4), (5, .int x5), (6, .int x6), (8, .int x8), (9, .int x9), (10, .int x10), (11, .int x11)] [] g Q := by
  unfold jX12_select_289_141 at h
  refine sX12_select_289 ?_
  replace h := q_be h
  obtain ⟨v40, hv, h⟩ := h
  replace hv := q_fR_e hv
  obtain ⟨_, cv40, dv40⟩ := hv
  replace h := q_be h
  obtain ⟨a41, ea41, h⟩ := h
  subst ea41
  replace h := q_be h
  obtain ⟨v42, hv, h⟩ := h
  replace hv := q_aI_e hv
  obtain ⟨_, _, cv42, iv42, yv42⟩ := hv
  replace h := q_be h
  obtain ⟨v43, hv, h⟩ := h
  replace hv := q_fR_e hv
  obtain ⟨_, cv43, dv43⟩ := hv
  replace h := q_be h
  obtain ⟨a44, ea44, h⟩ := h
  subst ea44
  have kJ47 : ∀ w46 : Int32, w46 = (if ¬ x2 = 0 then (if ¬ x2 = (1 : Int32) then (if ¬ x2 = (2 : Int32) then fX12_least v42 x11 else (if 0 ≤ (v42 - x11) then v42 - x11 else (0 : Int32))) else (if v42 ≤ x11 then x11 else v42)) else x11) → ps_At mX12_select (d + 10) 367 [(0, .ref x0), (1, .int x1), (2, .int x2), (3, .int x3), (4, .int x4), (5, .int x5), (6, .int x6), (8, .int x8), (9, .int x9)] [.int w46, .int x10, .ref a44] g Q := by
    rintro _ rfl
    refine sX12_select_367 ?_
    replace h := q_be h
    obtain ⟨g48, hv, h⟩ := h
    replace hv := q_wI_e hv
    obtain ⟨_, _, cg48, pg48, ig48, yg48⟩ := hv
    refine ⟨_, _, cg48, pg48, ig48, _, yg48, by decide, ?_⟩
    exact ps_weak (hh (x9 + (1 : Int32), g48) (Option.some.inj h).symm) ⟨rfl, rfl, rfl, rfl, rfl, rfl, rfl, rfl, rfl, trivial⟩
  refine ⟨⟨some _, rfl⟩, _, _, cv40, dv40, _, _, cv42, iv42, _, yv42, by decide, ⟨some _, rfl⟩, _, _, cv43, dv43, ?_⟩
  refine And.intro (fun hc45 => ?_) (fun hc45 => ?_)
  · refine sX12_select_313 ?_
    have kJ51 : ∀ w50 : Int32, w50 = (if ¬ x2 = (1 : Int32) then (if ¬ x2 = (2 : Int32) then fX12_least v42 x11 else (if 0 ≤ (v42 - x11) then v42 - x11 else (0 : Int32))) else (if v42 ≤ x11 then x11 else v42)) → ps_At mX12_select (d + 10) 367 [(0, .ref x0), (1, .int x1), (2, .int x2), (3, .int x3), (4, .int x4), (5, .int x5), (6, .int x6), (8, .int x8), (9, .int x9)] [.int w50, .int x10, .ref a44] g Q := by
      rintro _ rfl
      exact ps_weak (kJ47 _ (if_pos (hc45)).symm) ⟨rfl, rfl, rfl, rfl, rfl, rfl, rfl, rfl, rfl, trivial⟩
    refine And.intro (fun hc49 => ?_) (fun hc49 => ?_)
    · refine sX12_select_335 ?_
      have kJ54 : ∀ w53 : Int32, w53 = (if ¬ x2 = (2 : Int32) then fX12_least v42 x11 else (if 0 ≤ (v42 - x11) then v42 - x11 else (0 : Int32))) → ps_At mX12_select (d + 10) 367 [(0, .ref x0), (1, .int x1), (2, .int x2), (3, .int x3), (4, .int x4), (5, .int x5), (6, .int x6), (8, .int x8), (9, .int x9)] [.int w53, .int x10, .ref a44] g Q := by
        rintro _ rfl
        exact ps_weak (kJ51 _ (if_pos (hc49)).symm) ⟨rfl, rfl, rfl, rfl, rfl, rfl, rfl, rfl, rfl, trivial⟩
      refine And.intro (fun hc52 => ?_) (fun hc52 => ?_)
      · refine sX12_select_360 ?_
        refine rX12_least rfl ?_
        exact ps_weak (kJ54 _ (if_pos (hc52)).symm) ⟨rfl, rfl, rfl, rfl, rfl, rfl, rfl, rfl, rfl, trivial⟩
      · have kJ57 : ∀ w56 : Int32, w56 = (if 0 ≤ (v42 - x11) then v42 - x11 else (0 : Int32)) → ps_At mX12_select (d + 10) 367 [(0, .ref x0), (1, .int x1), (2, .int x2), (3, .int x3), (4, .int x4), (5, .int x5), (6, .int x6), (8, .int x8), (9, .int x9)] [.int w56, .int x10, .ref a44] g Q := by
          rintro _ rfl
          exact ps_weak (kJ54 _ (if_neg (hc52)).symm) ⟨rfl, rfl, rfl, rfl, rfl, rfl, rfl, rfl, rfl, trivial⟩
        refine And.intro (fun hc55 => ?_) (fun hc55 => ?_)
        · refine sX12_select_352 ?_
          exact ps_weak (kJ57 _ (if_pos (hc55)).symm) ⟨rfl, rfl, rfl, rfl, rfl, rfl, rfl, rfl, rfl, trivial⟩
        · exact ps_weak (kJ57 _ (if_neg (hc55)).symm) ⟨rfl, rfl, rfl, rfl, rfl, rfl, rfl, rfl, rfl, trivial⟩
    · have kJ60 : ∀ w59 : Int32, w59 = (if v42 ≤ x11 then x11 else v42) → ps_At mX12_select (d + 10) 367 [(0, .ref x0), (1, .int x1), (2, .int x2), (3, .int x3), (4, .int x4), (5, .int x5), (6, .int x6), (8, .int x8), (9, .int x9)] [.int w59, .int x10, .ref a44] g Q := by
        rintro _ rfl
        exact ps_weak (kJ51 _ (if_neg (hc49)).symm) ⟨rfl, rfl, rfl, rfl, rfl, rfl, rfl, rfl, rfl, trivial⟩
      refine And.intro (fun hc58 => ?_) (fun hc58 => ?_)
      · refine sX12_select_330 ?_
        exact ps_weak (kJ60 _ (if_pos (hc58)).symm) ⟨rfl, rfl, rfl, rfl, rfl, rfl, rfl, rfl, rfl, trivial⟩
      · exact ps_weak (kJ60 _ (if_neg (hc58)).symm) ⟨rfl, rfl, rfl, rfl, rfl, rfl, rfl, rfl, rfl, trivial⟩
  · exact ps_weak (kJ47 _ (if_neg (hc45)).symm) ⟨rfl, rfl, rfl, rfl, rfl, rfl, rfl, rfl, rfl, trivial⟩
noncomputable def bX12_select_141 (x0 : Nat) (x1 : Int32) (x2 : Int32) (x3 : Int32) (x4 : Int32) (x5 : Int32) (x6 : Int32) (x8 : Int32) (x9 : Int32) (g : ps_G) : Option ((Int32 × ps_G) ⊕ (ps_G)) := Option.bind (q_fI 12 13 g x0) fun v18 => if v18 ≤ x9 then (some (.inr g)) else (Option.bind (q_ob 12 g x0) fun u21 => Option.bind (fX12_at g x0 x9 x8) fun v22 => Option.bind (q_fR 12 32 g x0) fun v23 => Option.bind (v23) fun a24 => Option.bind (q_aI g a24 v22) fun v25 => if ¬ x1 = 0 then (if ¬ x1 = (1 : Int32) then (if ¬ x1 = (2 : Int32) then (if ¬ x1 = (5 : Int32) then (jX12_select_289_141 g x0 x1 x2 x3 x4 x5 x6 x8 x9 v22 v25) else (Option.bind (q_ob 12 g x0) fun u61 => Option.bind (fX12_get g x0 x3 (8 : Int32)) fun v62 => Option.bind (q_ob 12 g x0) fun u63 => Option.bind (fX12_get g x0 x3 (9 : Int32)) fun v64 => Option.bind (q_ob 12 g x0) fun u65 => Option.bind (fX12_own g x0 x3 (x9 - v62) (x8 - v64)) fun v66 => jX12_select_289_141 g x0 x1 x2 x3 x4 x5 x6 x8 x9 v22 (fX12_alpha v66))) else (Option.bind (fX12_ellipse g x9 x8 x3 x4 x5 x6) fun v69 => jX12_select_289_141 g x0 x1 x2 x3 x4 x5 x6 x8 x9 v22 v69)) else (jX12_select_289_141 g x0 x1 x2 x3 x4 x5 x6 x8 x9 v22 (if (x9 < x3) ∨ (((x3 + x5) ≤ x9) ∨ ((x8 < x4) ∨ ((x4 + x6) ≤ x8))) then (0 : Int32) else (255 : Int32)))) else (jX12_select_289_141 g x0 x1 x2 x3 x4 x5 x6 x8 x9 v22 (255 : Int32)))
theorem pbX12_select_141 {d : Nat} {Q : ps_Rs → ps_G → Prop}  {x0 : Nat} {x1 : Int32} {x2 : Int32} {x3 : Int32} {x4 : Int32} {x5 : Int32} {x6 : Int32} {x8 : Int32} {x9 : Int32} {g : ps_G} {x : (Int32 × ps_G) ⊕ (ps_G)} (h : bX12_select_141 x0 x1 x2 x3 x4 x5 x6 x8 x9 g = some x) (hh : ∀ s' : Int32 × ps_G, x = .inl s' → ps_At mX12_select (d + 10) 141 [(0, .ref x0), (1, .int x1), (2, .int x2), (3, .int x3), (4, .int x4), (5, .int x5), (6, .int x6), (8, .int x8), (9, .int s'.1)] [] s'.2 Q) (he : ∀ r' : ps_G, x = .inr r' → ps_At mX12_select (d + 10) 374 [(0, .ref x0), (1, .int x1), (2, .int x2), (3, .int x3), (4, .int x4), (5, .int x5), (6, .int x6), (8, .int x8)] [] r' Q) : ps_At mX12_select (d + 10) 141 [(0, .ref x0), (1, .int x1), (2, .int x2), (3, .int x3), (4, .int x4), (5, .int x5), (6, .int x6), (8, .int x8), (9, .int x9)] [] g Q := by
  unfold bX12_select_141 at h
  refine sX12_select_141 ?_
  replace h := q_be h
  obtain ⟨v18, hv, h⟩ := h
  replace hv := q_fI_e hv
  obtain ⟨_, cv18, dv18⟩ := hv
  refine ⟨⟨some _, rfl⟩, _, _, cv18, dv18, ?_⟩
  refine And.intro (fun hc19 => ?_) (fun hc19 => ?_)
  · replace h := q_ifp (hc19) h
    exact ps_weak (he g (Option.some.inj h).symm) ⟨rfl, rfl, rfl, rfl, rfl, rfl, rfl, rfl, trivial⟩
  · replace h := q_ifn (hc19) h
    replace h := q_be h
    obtain ⟨u21, hv, h⟩ := h
    replace hv := q_ob_e hv
    obtain ⟨_, cu21⟩ := hv
    replace h := q_be h
    obtain ⟨v22, hv, h⟩ := h
    refine ⟨⟨some _, rfl⟩, ⟨_, cu21⟩, ?_⟩
    refine rX12_at hv ?_
    replace h := q_be h
    obtain ⟨v23, hv, h⟩ := h
    replace hv := q_fR_e hv
    obtain ⟨_, cv23, dv23⟩ := hv
    replace h := q_be h
    obtain ⟨a24, ea24, h⟩ := h
    subst ea24
    replace h := q_be h
    obtain ⟨v25, hv, h⟩ := h
    replace hv := q_aI_e hv
    obtain ⟨_, _, cv25, iv25, yv25⟩ := hv
    refine ⟨by decide, ⟨some _, rfl⟩, _, _, cv23, dv23, _, _, cv25, iv25, _, yv25, by decide, ?_⟩
    refine And.intro (fun hc26 => ?_) (fun hc26 => ?_)
    · replace h := q_ifp (hc26) h
      refine sX12_select_181 ?_
      refine And.intro (fun hc31 => ?_) (fun hc31 => ?_)
      · replace h := q_ifp (hc31) h
        refine sX12_select_230 ?_
        refine And.intro (fun hc35 => ?_) (fun hc35 => ?_)
        · replace h := q_ifp (hc35) h
          refine sX12_select_254 ?_
          refine And.intro (fun hc38 => ?_) (fun hc38 => ?_)
          · replace h := q_ifp (hc38) h
            exact ps_weak (pjX12_select_289_141 h hh he) ⟨rfl, rfl, rfl, rfl, rfl, rfl, rfl, rfl, rfl, rfl, rfl, trivial⟩
          · replace h := q_ifn (hc38) h
            replace h := q_be h
            obtain ⟨u61, hv, h⟩ := h
            replace hv := q_ob_e hv
            obtain ⟨_, cu61⟩ := hv
            replace h := q_be h
            obtain ⟨v62, hv, h⟩ := h
            refine ⟨⟨some _, rfl⟩, ⟨some _, rfl⟩, ⟨_, cu61⟩, ?_⟩
            refine rX12_get hv ?_
            replace h := q_be h
            obtain ⟨u63, hv, h⟩ := h
            replace hv := q_ob_e hv
            obtain ⟨_, cu63⟩ := hv
            replace h := q_be h
            obtain ⟨v64, hv, h⟩ := h
            refine ⟨⟨some _, rfl⟩, ⟨_, cu63⟩, ?_⟩
            refine rX12_get hv ?_
            replace h := q_be h
            obtain ⟨u65, hv, h⟩ := h
            replace hv := q_ob_e hv
            obtain ⟨_, cu65⟩ := hv
            replace h := q_be h
            obtain ⟨v66, hv, h⟩ := h
            refine ⟨⟨_, cu65⟩, ?_⟩
            refine rX12_own hv ?_
            refine rX12_alpha rfl ?_
            refine ⟨by decide, ?_⟩
            exact ps_weak (pjX12_select_289_141 h hh he) ⟨rfl, rfl, rfl, rfl, rfl, rfl, rfl, rfl, rfl, rfl, rfl, trivial⟩
        · replace h := q_ifn (hc35) h
          replace h := q_be h
          obtain ⟨v69, hv, h⟩ := h
          refine rX12_ellipse hv ?_
          refine ⟨by decide, ?_⟩
          exact ps_weak (pjX12_select_289_141 h hh he) ⟨rfl, rfl, rfl, rfl, rfl, rfl, rfl, rfl, rfl, rfl, rfl, trivial⟩
      · replace h := q_ifn (hc31) h
        have kJ77 : ∀ w76 : Int32, w76 = (if (x9 < x3) ∨ (((x3 + x5) ≤ x9) ∨ ((x8 < x4) ∨ ((x4 + x6) ≤ x8))) then (0 : Int32) else (255 : Int32)) → ps_At mX12_select (d + 10) 225 [(0, .ref x0), (1, .int x1), (2, .int x2), (3, .int x3), (4, .int x4), (5, .int x5), (6, .int x6), (8, .int x8), (9, .int x9), (10, .int v22)] [.int w76] g Q := by
          rintro _ rfl
          refine sX12_select_225 ?_
          refine ⟨by decide, ?_⟩
          exact ps_weak (pjX12_select_289_141 h hh he) ⟨rfl, rfl, rfl, rfl, rfl, rfl, rfl, rfl, rfl, rfl, rfl, trivial⟩
        refine And.intro (fun hc72 => ?_) (fun hc72 => ?_)
        · refine sX12_select_224 ?_
          exact ps_weak (kJ77 _ (if_pos (Or.inl hc72)).symm) ⟨rfl, rfl, rfl, rfl, rfl, rfl, rfl, rfl, rfl, rfl, trivial⟩
        · refine And.intro (fun hc73 => ?_) (fun hc73 => ?_)
          · refine sX12_select_224 ?_
            exact ps_weak (kJ77 _ (if_pos (Or.inr (Or.inl hc73))).symm) ⟨rfl, rfl, rfl, rfl, rfl, rfl, rfl, rfl, rfl, rfl, trivial⟩
          · refine And.intro (fun hc74 => ?_) (fun hc74 => ?_)
            · refine sX12_select_224 ?_
              exact ps_weak (kJ77 _ (if_pos (Or.inr (Or.inr (Or.inl hc74)))).symm) ⟨rfl, rfl, rfl, rfl, rfl, rfl, rfl, rfl, rfl, rfl, trivial⟩
            · refine And.intro (fun hc75 => ?_) (fun hc75 => ?_)
              · refine sX12_select_224 ?_
                exact ps_weak (kJ77 _ (if_pos (Or.inr (Or.inr (Or.inr (hc75))))).symm) ⟨rfl, rfl, rfl, rfl, rfl, rfl, rfl, rfl, rfl, rfl, trivial⟩
              · exact ps_weak (kJ77 _ (if_neg (not_or.mpr ⟨hc72, not_or.mpr ⟨hc73, not_or.mpr ⟨hc74, hc75⟩⟩⟩)).symm) ⟨rfl, rfl, rfl, rfl, rfl, rfl, rfl, rfl, rfl, rfl, trivial⟩
    · replace h := q_ifn (hc26) h
      refine ⟨by decide, ?_⟩
      exact ps_weak (pjX12_select_289_141 h hh he) ⟨rfl, rfl, rfl, rfl, rfl, rfl, rfl, rfl, rfl, rfl, rfl, trivial⟩
noncomputable def bX12_select_129 (x0 : Nat) (x1 : Int32) (x2 : Int32) (x3 : Int32) (x4 : Int32) (x5 : Int32) (x6 : Int32) (x8 : Int32) (g : ps_G) : Option ((Int32 × ps_G) ⊕ (ps_G)) := Option.bind (q_fI 12 14 g x0) fun v16 => if v16 ≤ x8 then (some (.inr g)) else (Option.bind (q_lp (fun s => bX12_select_141 x0 x1 x2 x3 x4 x5 x6 x8 s.1 s.2) ((0 : Int32), g)) fun s84 => some (.inl (x8 + (1 : Int32), s84)))
theorem pbX12_select_129 {d : Nat} {Q : ps_Rs → ps_G → Prop}  {x0 : Nat} {x1 : Int32} {x2 : Int32} {x3 : Int32} {x4 : Int32} {x5 : Int32} {x6 : Int32} {x8 : Int32} {g : ps_G} {x : (Int32 × ps_G) ⊕ (ps_G)} (h : bX12_select_129 x0 x1 x2 x3 x4 x5 x6 x8 g = some x) (hh : ∀ s' : Int32 × ps_G, x = .inl s' → ps_At mX12_select (d + 10) 129 [(0, .ref x0), (1, .int x1), (2, .int x2), (3, .int x3), (4, .int x4), (5, .int x5), (6, .int x6), (8, .int s'.1)] [] s'.2 Q) (he : ∀ r' : ps_G, x = .inr r' → ps_At mX12_select (d + 10) 380 [(0, .ref x0)] [] r' Q) : ps_At mX12_select (d + 10) 129 [(0, .ref x0), (1, .int x1), (2, .int x2), (3, .int x3), (4, .int x4), (5, .int x5), (6, .int x6), (8, .int x8)] [] g Q := by
  unfold bX12_select_129 at h
  refine sX12_select_129 ?_
  replace h := q_be h
  obtain ⟨v16, hv, h⟩ := h
  replace hv := q_fI_e hv
  obtain ⟨_, cv16, dv16⟩ := hv
  refine ⟨⟨some _, rfl⟩, _, _, cv16, dv16, ?_⟩
  refine And.intro (fun hc17 => ?_) (fun hc17 => ?_)
  · replace h := q_ifp (hc17) h
    exact ps_weak (he g (Option.some.inj h).symm) ⟨rfl, trivial⟩
  · replace h := q_ifn (hc17) h
    refine ⟨by decide, ?_⟩
    replace h := q_be h
    obtain ⟨s84, hl, h⟩ := h
    refine ps_weak (q_lp_ok hl (fun s => ps_At mX12_select (d + 10) 141 [(0, .ref x0), (1, .int x1), (2, .int x2), (3, .int x3), (4, .int x4), (5, .int x5), (6, .int x6), (8, .int x8), (9, .int s.1)] [] s.2 Q) (fun r => ps_At mX12_select (d + 10) 374 [(0, .ref x0), (1, .int x1), (2, .int x2), (3, .int x3), (4, .int x4), (5, .int x5), (6, .int x6), (8, .int x8)] [] r Q) (fun s x hb hh he => pbX12_select_141 hb hh he) ?_) ⟨rfl, rfl, rfl, rfl, rfl, rfl, rfl, rfl, rfl, trivial⟩
    refine (?_ : ps_At mX12_select (d + 10) 374 [(0, .ref x0), (1, .int x1), (2, .int x2), (3, .int x3), (4, .int x4), (5, .int x5), (6, .int x6), (8, .int x8)] [] s84 Q)
    refine sX12_select_374 ?_
    refine ⟨by decide, ?_⟩
    exact ps_weak (hh (x8 + (1 : Int32), s84) (Option.some.inj h).symm) ⟨rfl, rfl, rfl, rfl, rfl, rfl, rfl, rfl, trivial⟩
noncomputable def jX12_select_126 (g : ps_G) (x0 : Nat) (x1 : Int32) (x2 : Int32) (x3 : Int32) (x4 : Int32) (x5 : Int32) (x6 : Int32) : Option (Int32 × ps_G) := Option.bind (q_lp (fun s => bX12_select_129 x0 x1 x2 x3 x4 x5 x6 s.1 s.2) ((0 : Int32), g)) fun s87 => Option.bind (q_ob 12 s87 x0) fun u88 => Option.bind (fX12_above s87 x0) fun v89 => some (v89, s87)
theorem pjX12_select_126 {d : Nat} {Q : ps_Rs → ps_G → Prop} {g : ps_G} {x0 : Nat} {x1 : Int32} {x2 : Int32} {x3 : Int32} {x4 : Int32} {x5 : Int32} {x6 : Int32} {r : Int32 × ps_G} (h : jX12_select_126 g x0 x1 x2 x3 x4 x5 x6 = some r) (hk : Q (.inl (some (.int r.1))) r.2) : ps_At mX12_select (d + 10) 126 [(0, .ref x0), (1, .int x1), (2, .int x2), (3, .int x3), (4, .int x4), (5, .int x5), (6, .int x6)] [] g Q := by
  unfold jX12_select_126 at h
  refine sX12_select_126 ?_
  refine ⟨by decide, ?_⟩
  replace h := q_be h
  obtain ⟨s87, hl, h⟩ := h
  refine ps_weak (q_lp_ok hl (fun s => ps_At mX12_select (d + 10) 129 [(0, .ref x0), (1, .int x1), (2, .int x2), (3, .int x3), (4, .int x4), (5, .int x5), (6, .int x6), (8, .int s.1)] [] s.2 Q) (fun r => ps_At mX12_select (d + 10) 380 [(0, .ref x0)] [] r Q) (fun s x hb hh he => pbX12_select_129 hb hh he) ?_) ⟨rfl, rfl, rfl, rfl, rfl, rfl, rfl, rfl, trivial⟩
  refine (?_ : ps_At mX12_select (d + 10) 380 [(0, .ref x0)] [] s87 Q)
  refine sX12_select_380 ?_
  replace h := q_be h
  obtain ⟨u88, hv, h⟩ := h
  replace hv := q_ob_e hv
  obtain ⟨_, cu88⟩ := hv
  replace h := q_be h
  obtain ⟨v89, hv, h⟩ := h
  refine ⟨⟨some _, rfl⟩, ⟨_, cu88⟩, ?_⟩
  refine rX12_above hv ?_
  cases h
  exact ⟨rfl, hk⟩
noncomputable def jX12_select_111 (g : ps_G) (x0 : Nat) (x1 : Int32) (x2 : Int32) (x3 : Int32) (x4 : Int32) (x5 : Int32) (x6 : Int32) : Option (Int32 × ps_G) := if ¬ x1 = (6 : Int32) then (jX12_select_126 g x0 x1 x2 x3 x4 x5 x6) else (Option.bind (q_ob 12 g x0) fun u90 => Option.bind (fX12_shapeOfPath g x0 x3 x4 (0 : Int32) (0 : Int32)) fun v91 => jX12_select_126 v91 x0 x1 x2 x3 x4 x5 x6)
theorem pjX12_select_111 {d : Nat} {Q : ps_Rs → ps_G → Prop} {g : ps_G} {x0 : Nat} {x1 : Int32} {x2 : Int32} {x3 : Int32} {x4 : Int32} {x5 : Int32} {x6 : Int32} {r : Int32 × ps_G} (h : jX12_select_111 g x0 x1 x2 x3 x4 x5 x6 = some r) (hk : Q (.inl (some (.int r.1))) r.2) : ps_At mX12_select (d + 10) 111 [(0, .ref x0), (1, .int x1), (2, .int x2), (3, .int x3), (4, .int x4), (5, .int x5), (6, .int x6)] [] g Q := by
  unfold jX12_select_111 at h
  refine sX12_select_111 ?_
  refine And.intro (fun hc14 => ?_) (fun hc14 => ?_)
  · replace h := q_ifp (hc14) h
    exact ps_weak (pjX12_select_126 h hk) ⟨rfl, rfl, rfl, rfl, rfl, rfl, rfl, trivial⟩
  · replace h := q_ifn (hc14) h
    replace h := q_be h
    obtain ⟨u90, hv, h⟩ := h
    replace hv := q_ob_e hv
    obtain ⟨_, cu90⟩ := hv
    replace h := q_be h
    obtain ⟨v91, hv, h⟩ := h
    refine ⟨⟨some _, rfl⟩, ⟨_, cu90⟩, ?_⟩
    refine rX12_shapeOfPath hv ?_
    exact ps_weak (pjX12_select_126 h hk) ⟨rfl, rfl, rfl, rfl, rfl, rfl, rfl, trivial⟩
noncomputable def jX12_select_70 (g : ps_G) (x0 : Nat) (x1 : Int32) (x2 : Int32) (x3 : Int32) (x4 : Int32) (x5 : Int32) (x6 : Int32) (k0 : Nat) (k1 : Int32) : Option (Int32 × ps_G) := Option.bind (q_sI 12 0 g k0 k1) fun g5 => Option.bind (q_fI 12 0 g5 x0) fun v6 => if v6 ≤ 0 then (if ¬ (x1 = (3 : Int32)) ∧ (¬ x1 = (4 : Int32)) then (jX12_select_111 g5 x0 x1 x2 x3 x4 x5 x6) else (Option.bind (q_ob 12 g5 x0) fun u97 => Option.bind (fX12_wand g5 x0 x3 x4 x5 (if ¬ x1 = (3 : Int32) then (0 : Int32) else (1 : Int32))) fun v98 => jX12_select_111 v98 x0 x1 x2 x3 x4 x5 x6)) else (some ((0 : Int32), g5))
theorem pjX12_select_70 {d : Nat} {Q : ps_Rs → ps_G → Prop} {g : ps_G} {x0 : Nat} {x1 : Int32} {x2 : Int32} {x3 : Int32} {x4 : Int32} {x5 : Int32} {x6 : Int32} {k0 : Nat} {k1 : Int32} {r : Int32 × ps_G} (h : jX12_select_70 g x0 x1 x2 x3 x4 x5 x6 k0 k1 = some r) (hk : Q (.inl (some (.int r.1))) r.2) : ps_At mX12_select (d + 10) 70 [(0, .ref x0), (1, .int x1), (2, .int x2), (3, .int x3), (4, .int x4), (5, .int x5), (6, .int x6)] [.int k1, .ref k0] g Q := by
  unfold jX12_select_70 at h
  refine sX12_select_70 ?_
  replace h := q_be h
  obtain ⟨g5, hv, h⟩ := h
  replace hv := q_sI_e hv
  obtain ⟨_, cg5, dg5, yg5⟩ := hv
  replace h := q_be h
  obtain ⟨v6, hv, h⟩ := h
  replace hv := q_fI_e hv
  obtain ⟨_, cv6, dv6⟩ := hv
  refine ⟨_, cg5, dg5, rfl, rfl, _, yg5, ⟨some _, rfl⟩, _, _, cv6, dv6, ?_⟩
  refine And.intro (fun hc7 => ?_) (fun hc7 => ?_)
  · replace h := q_ifp (hc7) h
    refine sX12_select_82 ?_
    have kF100 : (Option.bind (q_ob 12 g5 x0) fun u97 => Option.bind (fX12_wand g5 x0 x3 x4 x5 (if ¬ x1 = (3 : Int32) then (0 : Int32) else (1 : Int32))) fun v98 => jX12_select_111 v98 x0 x1 x2 x3 x4 x5 x6) = some r → ps_At mX12_select (d + 10) 92 [(0, .ref x0), (1, .int x1), (2, .int x2), (3, .int x3), (4, .int x4), (5, .int x5), (6, .int x6)] [] g5 Q := fun h => by
      refine sX12_select_92 ?_
      have kJ96 : ∀ w95 : Int32, w95 = (if ¬ x1 = (3 : Int32) then (0 : Int32) else (1 : Int32)) → ps_At mX12_select (d + 10) 108 [(0, .ref x0), (1, .int x1), (2, .int x2), (3, .int x3), (4, .int x4), (5, .int x5), (6, .int x6)] [.int w95, .int x5, .int x4, .int x3, .ref x0] g5 Q := by
        rintro _ rfl
        refine sX12_select_108 ?_
        replace h := q_be h
        obtain ⟨u97, hv, h⟩ := h
        replace hv := q_ob_e hv
        obtain ⟨_, cu97⟩ := hv
        replace h := q_be h
        obtain ⟨v98, hv, h⟩ := h
        refine ⟨⟨_, cu97⟩, ?_⟩
        refine rX12_wand hv ?_
        exact ps_weak (pjX12_select_111 h hk) ⟨rfl, rfl, rfl, rfl, rfl, rfl, rfl, trivial⟩
      refine ⟨⟨some _, rfl⟩, ?_⟩
      refine And.intro (fun hc94 => ?_) (fun hc94 => ?_)
      · refine sX12_select_107 ?_
        exact ps_weak (kJ96 _ (if_pos (hc94)).symm) ⟨rfl, rfl, rfl, rfl, rfl, rfl, rfl, trivial⟩
      · exact ps_weak (kJ96 _ (if_neg (hc94)).symm) ⟨rfl, rfl, rfl, rfl, rfl, rfl, rfl, trivial⟩
    refine And.intro (fun hc8 => ?_) (fun hc8 => ?_)
    · exact ps_weak (kF100 (q_ifn (fun z => z.1 hc8) h)) ⟨rfl, rfl, rfl, rfl, rfl, rfl, rfl, trivial⟩
    · refine And.intro (fun hc9 => ?_) (fun hc9 => ?_)
      · replace h := q_ifp (⟨hc8, hc9⟩) h
        exact ps_weak (pjX12_select_111 h hk) ⟨rfl, rfl, rfl, rfl, rfl, rfl, rfl, trivial⟩
      · exact ps_weak (kF100 (q_ifn (fun z => hc9 z.2) h)) ⟨rfl, rfl, rfl, rfl, rfl, rfl, rfl, trivial⟩
  · replace h := q_ifn (hc7) h
    cases h
    exact ⟨rfl, hk⟩
noncomputable def jX12_select_69 (g : ps_G) (x0 : Nat) (x1 : Int32) (x2 : Int32) (x3 : Int32) (x4 : Int32) (x5 : Int32) (x6 : Int32) (k0 : Nat) : Option (Int32 × ps_G) := jX12_select_70 g x0 x1 x2 x3 x4 x5 x6 k0 (0 : Int32)
theorem pjX12_select_69 {d : Nat} {Q : ps_Rs → ps_G → Prop} {g : ps_G} {x0 : Nat} {x1 : Int32} {x2 : Int32} {x3 : Int32} {x4 : Int32} {x5 : Int32} {x6 : Int32} {k0 : Nat} {r : Int32 × ps_G} (h : jX12_select_69 g x0 x1 x2 x3 x4 x5 x6 k0 = some r) (hk : Q (.inl (some (.int r.1))) r.2) : ps_At mX12_select (d + 10) 69 [(0, .ref x0), (1, .int x1), (2, .int x2), (3, .int x3), (4, .int x4), (5, .int x5), (6, .int x6)] [.ref k0] g Q := by
  unfold jX12_select_69 at h
  refine sX12_select_69 ?_
  exact ps_weak (pjX12_select_70 h hk) ⟨rfl, rfl, rfl, rfl, rfl, rfl, rfl, trivial⟩
noncomputable def jX12_select_39 (g : ps_G) (x0 : Nat) (x1 : Int32) (x2 : Int32) (x3 : Int32) (x4 : Int32) (x5 : Int32) (x6 : Int32) (k0 : Int32) : Option (Int32 × ps_G) := if k0 = 0 then (if ¬ x1 = (5 : Int32) then (jX12_select_69 g x0 x1 x2 x3 x4 x5 x6 x0) else (Option.bind (q_ob 12 g x0) fun u103 => Option.bind (fX12_is g x0 x3 (0 : Int32)) fun v104 => if ¬ v104 = 0 then (jX12_select_69 g x0 x1 x2 x3 x4 x5 x6 x0) else (jX12_select_70 g x0 x1 x2 x3 x4 x5 x6 x0 (2 : Int32)))) else (jX12_select_70 g x0 x1 x2 x3 x4 x5 x6 x0 (1 : Int32))
theorem pjX12_select_39 {d : Nat} {Q : ps_Rs → ps_G → Prop} {g : ps_G} {x0 : Nat} {x1 : Int32} {x2 : Int32} {x3 : Int32} {x4 : Int32} {x5 : Int32} {x6 : Int32} {k0 : Int32} {r : Int32 × ps_G} (h : jX12_select_39 g x0 x1 x2 x3 x4 x5 x6 k0 = some r) (hk : Q (.inl (some (.int r.1))) r.2) : ps_At mX12_select (d + 10) 39 [(0, .ref x0), (1, .int x1), (2, .int x2), (3, .int x3), (4, .int x4), (5, .int x5), (6, .int x6)] [.int k0] g Q := by
  unfold jX12_select_39 at h
  refine sX12_select_39 ?_
  refine ⟨by decide, ⟨some _, rfl⟩, ?_⟩
  refine And.intro (fun hc2 => ?_) (fun hc2 => ?_)
  · replace h := q_ifp (hc2) h
    refine sX12_select_51 ?_
    refine And.intro (fun hc4 => ?_) (fun hc4 => ?_)
    · replace h := q_ifp (hc4) h
      exact ps_weak (pjX12_select_69 h hk) ⟨rfl, rfl, rfl, rfl, rfl, rfl, rfl, trivial⟩
    · replace h := q_ifn (hc4) h
      replace h := q_be h
      obtain ⟨u103, hv, h⟩ := h
      replace hv := q_ob_e hv
      obtain ⟨_, cu103⟩ := hv
      replace h := q_be h
      obtain ⟨v104, hv, h⟩ := h
      refine ⟨⟨some _, rfl⟩, ⟨_, cu103⟩, ?_⟩
      refine rX12_is hv ?_
      refine And.intro (fun hc105 => ?_) (fun hc105 => ?_)
      · replace h := q_ifp (hc105) h
        exact ps_weak (pjX12_select_69 h hk) ⟨rfl, rfl, rfl, rfl, rfl, rfl, rfl, trivial⟩
      · replace h := q_ifn (hc105) h
        exact ps_weak (pjX12_select_70 h hk) ⟨rfl, rfl, rfl, rfl, rfl, rfl, rfl, trivial⟩
  · replace h := q_ifn (hc2) h
    exact ps_weak (pjX12_select_70 h hk) ⟨rfl, rfl, rfl, rfl, rfl, rfl, rfl, trivial⟩
noncomputable def jX12_select_34 (g : ps_G) (x0 : Nat) (x1 : Int32) (x2 : Int32) (x3 : Int32) (x4 : Int32) (x5 : Int32) (x6 : Int32) : Option (Int32 × ps_G) := jX12_select_39 g x0 x1 x2 x3 x4 x5 x6 (1 : Int32)
theorem pjX12_select_34 {d : Nat} {Q : ps_Rs → ps_G → Prop} {g : ps_G} {x0 : Nat} {x1 : Int32} {x2 : Int32} {x3 : Int32} {x4 : Int32} {x5 : Int32} {x6 : Int32} {r : Int32 × ps_G} (h : jX12_select_34 g x0 x1 x2 x3 x4 x5 x6 = some r) (hk : Q (.inl (some (.int r.1))) r.2) : ps_At mX12_select (d + 10) 34 [(0, .ref x0), (1, .int x1), (2, .int x2), (3, .int x3), (4, .int x4), (5, .int x5), (6, .int x6)] [] g Q := by
  unfold jX12_select_34 at h
  refine sX12_select_34 ?_
  exact ps_weak (pjX12_select_39 h hk) ⟨rfl, rfl, rfl, rfl, rfl, rfl, rfl, trivial⟩
noncomputable def fX12_select (g : ps_G) (x0 : Nat) (x1 : Int32) (x2 : Int32) (x3 : Int32) (x4 : Int32) (x5 : Int32) (x6 : Int32) : Option (Int32 × ps_G) := if (fX12_in x1 (0 : Int32) (6 : Int32)) = 0 then (jX12_select_34 g x0 x1 x2 x3 x4 x5 x6) else (if (fX12_in x2 (0 : Int32) (3 : Int32)) = 0 then (jX12_select_34 g x0 x1 x2 x3 x4 x5 x6) else (Option.bind (q_ob 12 g x0) fun u113 => Option.bind (fX12_isRight g x0 x1 x3 x4 x5 x6) fun v114 => if ¬ v114 = 0 then (jX12_select_39 g x0 x1 x2 x3 x4 x5 x6 (0 : Int32)) else (jX12_select_34 g x0 x1 x2 x3 x4 x5 x6)))
theorem rX12_select {d : Nat} {Q : ps_Rs → ps_G → Prop} {g : ps_G} {x0 : Nat} {x1 : Int32} {x2 : Int32} {x3 : Int32} {x4 : Int32} {x5 : Int32} {x6 : Int32} {r : Int32 × ps_G} (h : fX12_select g x0 x1 x2 x3 x4 x5 x6 = some r) (hk : Q (.inl (some (.int r.1))) r.2) : ps_Ok mX12_select (d + 10) [.ref x0, .int x1, .int x2, .int x3, .int x4, .int x5, .int x6] g Q := by
  unfold fX12_select at h
  refine sX12_select_0 ?_
  refine rX12_in rfl ?_
  refine And.intro (fun hc1 => ?_) (fun hc1 => ?_)
  · replace h := q_ifp (hc1) h
    exact ps_weak (pjX12_select_34 h hk) ⟨rfl, rfl, rfl, rfl, rfl, rfl, rfl, trivial⟩
  · replace h := q_ifn (hc1) h
    refine rX12_in rfl ?_
    refine And.intro (fun hc112 => ?_) (fun hc112 => ?_)
    · replace h := q_ifp (hc112) h
      exact ps_weak (pjX12_select_34 h hk) ⟨rfl, rfl, rfl, rfl, rfl, rfl, rfl, trivial⟩
    · replace h := q_ifn (hc112) h
      replace h := q_be h
      obtain ⟨u113, hv, h⟩ := h
      replace hv := q_ob_e hv
      obtain ⟨_, cu113⟩ := hv
      replace h := q_be h
      obtain ⟨v114, hv, h⟩ := h
      refine ⟨⟨some _, rfl⟩, ⟨_, cu113⟩, ?_⟩
      refine rX12_isRight hv ?_
      refine And.intro (fun hc115 => ?_) (fun hc115 => ?_)
      · replace h := q_ifp (hc115) h
        refine sX12_select_38 ?_
        exact ps_weak (pjX12_select_39 h hk) ⟨rfl, rfl, rfl, rfl, rfl, rfl, rfl, trivial⟩
      · replace h := q_ifn (hc115) h
        exact ps_weak (pjX12_select_34 h hk) ⟨rfl, rfl, rfl, rfl, rfl, rfl, rfl, trivial⟩
noncomputable def jX12_around_144_37 (g : ps_G) (x0 : Nat) (x1 : Int32) (x2 : Int32) (x3 : Int32) (x4 : Int32) (x5 : Int32) (x6 : Int32) (x7 : Int32) (x8 : Int32) (x9 : Int32) (k0 : Int32) : Option ((Int32 × Int32 × Int32) ⊕ (Int32 × Int32)) := some (.inl ((if (¬ x1 = (2 : Int32)) ∨ ((if (¬ x1 = (1 : Int32)) ∨ ((x9 = 0) ∨ (k0 ≤ x5)) then x5 else k0) ≤ k0) then (if (¬ x1 = (1 : Int32)) ∨ ((x9 = 0) ∨ (k0 ≤ x5)) then x5 else k0) else k0), x6 + k0, x8 + (1 : Int32)))
theorem pjX12_around_144_37 {d : Nat} {Q : ps_Rs → ps_G → Prop} {g : ps_G} {x0 : Nat} {x1 : Int32} {x2 : Int32} {x3 : Int32} {x4 : Int32} {x5 : Int32} {x6 : Int32} {x7 : Int32} {x8 : Int32} {x9 : Int32} {k0 : Int32} {x : (Int32 × Int32 × Int32) ⊕ (Int32 × Int32)} (h : jX12_around_144_37 g x0 x1 x2 x3 x4 x5 x6 x7 x8 x9 k0 = some x) (hh : ∀ s' : Int32 × Int32 × Int32, x = .inl s' → ps_At mX12_around (d + 1) 37 [(0, .ref x0), (1, .int x1), (2, .int x2), (3, .int x3), (4, .int x4), (5, .int s'.1), (6, .int s'.2.1), (7, .int x7), (8, .int s'.2.2)] [] g Q) (he : ∀ r' : Int32 × Int32, x = .inr r' → ps_At mX12_around (d + 1) 196 [(0, .ref x0), (1, .int x1), (2, .int x2), (3, .int x3), (4, .int x4), (5, .int r'.1), (6, .int r'.2), (7, .int x7)] [] g Q) : ps_At mX12_around (d + 1) 144 [(0, .ref x0), (1, .int x1), (2, .int x2), (3, .int x3), (4, .int x4), (5, .int x5), (6, .int x6), (7, .int x7), (8, .int x8), (9, .int x9)] [.int k0] g Q := by
  unfold jX12_around_144_37 at h
  refine sX12_around_144 ?_
  have kJ26 : ∀ w25 : Int32, w25 = (if (¬ x1 = (1 : Int32)) ∨ ((x9 = 0) ∨ (k0 ≤ x5)) then x5 else k0) → ps_At mX12_around (d + 1) 174 [(0, .ref x0), (1, .int x1), (2, .int x2), (3, .int x3), (4, .int x4), (5, .int w25), (6, .int (x6 + k0)), (7, .int x7), (8, .int x8), (12, .int k0)] [] g Q := by
    rintro _ rfl
    refine sX12_around_174 ?_
    have kJ30 : ∀ w29 : Int32, w29 = (if (¬ x1 = (2 : Int32)) ∨ ((if (¬ x1 = (1 : Int32)) ∨ ((x9 = 0) ∨ (k0 ≤ x5)) then x5 else k0) ≤ k0) then (if (¬ x1 = (1 : Int32)) ∨ ((x9 = 0) ∨ (k0 ≤ x5)) then x5 else k0) else k0) → ps_At mX12_around (d + 1) 190 [(0, .ref x0), (1, .int x1), (2, .int x2), (3, .int x3), (4, .int x4), (5, .int w29), (6, .int (x6 + k0)), (7, .int x7), (8, .int x8)] [] g Q := by
      rintro _ rfl
      refine sX12_around_190 ?_
      refine ⟨by decide, ?_⟩
      exact ps_weak (hh ((if (¬ x1 = (2 : Int32)) ∨ ((if (¬ x1 = (1 : Int32)) ∨ ((x9 = 0) ∨ (k0 ≤ x5)) then x5 else k0) ≤ k0) then (if (¬ x1 = (1 : Int32)) ∨ ((x9 = 0) ∨ (k0 ≤ x5)) then x5 else k0) else k0), x6 + k0, x8 + (1 : Int32)) (Option.some.inj h).symm) ⟨rfl, rfl, rfl, rfl, rfl, rfl, rfl, rfl, rfl, trivial⟩
    refine And.intro (fun hc27 => ?_) (fun hc27 => ?_)
    · exact ps_weak (kJ30 _ (if_pos (Or.inl hc27)).symm) ⟨rfl, rfl, rfl, rfl, rfl, rfl, rfl, rfl, rfl, trivial⟩
    · refine And.intro (fun hc28 => ?_) (fun hc28 => ?_)
      · exact ps_weak (kJ30 _ (if_pos (Or.inr (hc28))).symm) ⟨rfl, rfl, rfl, rfl, rfl, rfl, rfl, rfl, rfl, trivial⟩
      · refine ⟨by decide, ?_⟩
        exact ps_weak (kJ30 _ (if_neg (not_or.mpr ⟨hc27, hc28⟩)).symm) ⟨rfl, rfl, rfl, rfl, rfl, rfl, rfl, rfl, rfl, trivial⟩
  refine ⟨by decide, by decide, ?_⟩
  refine And.intro (fun hc22 => ?_) (fun hc22 => ?_)
  · exact ps_weak (kJ26 _ (if_pos (Or.inl hc22)).symm) ⟨rfl, rfl, rfl, rfl, rfl, rfl, rfl, rfl, rfl, rfl, trivial⟩
  · refine And.intro (fun hc23 => ?_) (fun hc23 => ?_)
    · exact ps_weak (kJ26 _ (if_pos (Or.inr (Or.inl hc23))).symm) ⟨rfl, rfl, rfl, rfl, rfl, rfl, rfl, rfl, rfl, rfl, trivial⟩
    · refine And.intro (fun hc24 => ?_) (fun hc24 => ?_)
      · exact ps_weak (kJ26 _ (if_pos (Or.inr (Or.inr (hc24)))).symm) ⟨rfl, rfl, rfl, rfl, rfl, rfl, rfl, rfl, rfl, rfl, trivial⟩
      · refine ⟨by decide, ?_⟩
        exact ps_weak (kJ26 _ (if_neg (not_or.mpr ⟨hc22, not_or.mpr ⟨hc23, hc24⟩⟩)).symm) ⟨rfl, rfl, rfl, rfl, rfl, rfl, rfl, rfl, rfl, rfl, trivial⟩
noncomputable def jX12_around_115_37 (g : ps_G) (x0 : Nat) (x1 : Int32) (x2 : Int32) (x3 : Int32) (x4 : Int32) (x5 : Int32) (x6 : Int32) (x7 : Int32) (x8 : Int32) (x9 : Int32) (x10 : Int32) (k0 : Int32) : Option ((Int32 × Int32 × Int32) ⊕ (Int32 × Int32)) := if ¬ (¬ x9 = 0) ∧ (¬ x1 = (3 : Int32)) then (jX12_around_144_37 g x0 x1 x2 x3 x4 x5 x6 x7 x8 x9 (0 : Int32)) else (Option.bind (q_fR 12 32 g x0) fun v31 => Option.bind (v31) fun a32 => Option.bind (q_ob 12 g x0) fun u33 => Option.bind (fX12_at g x0 x10 k0) fun v34 => Option.bind (q_aI g a32 v34) fun v35 => jX12_around_144_37 g x0 x1 x2 x3 x4 x5 x6 x7 x8 x9 v35)
theorem pjX12_around_115_37 {d : Nat} {Q : ps_Rs → ps_G → Prop} {g : ps_G} {x0 : Nat} {x1 : Int32} {x2 : Int32} {x3 : Int32} {x4 : Int32} {x5 : Int32} {x6 : Int32} {x7 : Int32} {x8 : Int32} {x9 : Int32} {x10 : Int32} {k0 : Int32} {x : (Int32 × Int32 × Int32) ⊕ (Int32 × Int32)} (h : jX12_around_115_37 g x0 x1 x2 x3 x4 x5 x6 x7 x8 x9 x10 k0 = some x) (hh : ∀ s' : Int32 × Int32 × Int32, x = .inl s' → ps_At mX12_around (d + 1) 37 [(0, .ref x0), (1, .int x1), (2, .int x2), (3, .int x3), (4, .int x4), (5, .int s'.1), (6, .int s'.2.1), (7, .int x7), (8, .int s'.2.2)] [] g Q) (he : ∀ r' : Int32 × Int32, x = .inr r' → ps_At mX12_around (d + 1) 196 [(0, .ref x0), (1, .int x1), (2, .int x2), (3, .int x3), (4, .int x4), (5, .int r'.1), (6, .int r'.2), (7, .int x7)] [] g Q) : ps_At mX12_around (d + 1) 115 [(0, .ref x0), (1, .int x1), (2, .int x2), (3, .int x3), (4, .int x4), (5, .int x5), (6, .int x6), (7, .int x7), (8, .int x8), (9, .int x9), (10, .int x10)] [.int k0] g Q := by
  unfold jX12_around_115_37 at h
  refine sX12_around_115 ?_
  have kF37 : (Option.bind (q_fR 12 32 g x0) fun v31 => Option.bind (v31) fun a32 => Option.bind (q_ob 12 g x0) fun u33 => Option.bind (fX12_at g x0 x10 k0) fun v34 => Option.bind (q_aI g a32 v34) fun v35 => jX12_around_144_37 g x0 x1 x2 x3 x4 x5 x6 x7 x8 x9 v35) = some x → ps_At mX12_around (d + 1) 127 [(0, .ref x0), (1, .int x1), (2, .int x2), (3, .int x3), (4, .int x4), (5, .int x5), (6, .int x6), (7, .int x7), (8, .int x8), (9, .int x9), (10, .int x10), (11, .int k0)] [] g Q := fun h => by
    refine sX12_around_127 ?_
    replace h := q_be h
    obtain ⟨v31, hv, h⟩ := h
    replace hv := q_fR_e hv
    obtain ⟨_, cv31, dv31⟩ := hv
    replace h := q_be h
    obtain ⟨a32, ea32, h⟩ := h
    subst ea32
    replace h := q_be h
    obtain ⟨u33, hv, h⟩ := h
    replace hv := q_ob_e hv
    obtain ⟨_, cu33⟩ := hv
    replace h := q_be h
    obtain ⟨v34, hv, h⟩ := h
    refine ⟨⟨some _, rfl⟩, _, _, cv31, dv31, ⟨some _, rfl⟩, ⟨_, cu33⟩, ?_⟩
    refine rX12_at hv ?_
    replace h := q_be h
    obtain ⟨v35, hv, h⟩ := h
    replace hv := q_aI_e hv
    obtain ⟨_, _, cv35, iv35, yv35⟩ := hv
    refine ⟨_, _, cv35, iv35, _, yv35, ?_⟩
    exact ps_weak (pjX12_around_144_37 h hh he) ⟨rfl, rfl, rfl, rfl, rfl, rfl, rfl, rfl, rfl, rfl, trivial⟩
  refine ⟨by decide, ?_⟩
  refine And.intro (fun hc19 => ?_) (fun hc19 => ?_)
  · exact ps_weak (kF37 (q_ifn (fun z => z.1 hc19) h)) ⟨rfl, rfl, rfl, rfl, rfl, rfl, rfl, rfl, rfl, rfl, rfl, rfl, trivial⟩
  · refine And.intro (fun hc20 => ?_) (fun hc20 => ?_)
    · replace h := q_ifp (⟨hc19, hc20⟩) h
      refine sX12_around_143 ?_
      exact ps_weak (pjX12_around_144_37 h hh he) ⟨rfl, rfl, rfl, rfl, rfl, rfl, rfl, rfl, rfl, rfl, trivial⟩
    · exact ps_weak (kF37 (q_ifn (fun z => hc20 z.2) h)) ⟨rfl, rfl, rfl, rfl, rfl, rfl, rfl, rfl, rfl, rfl, rfl, rfl, trivial⟩
noncomputable def jX12_around_84_37 (g : ps_G) (x0 : Nat) (x1 : Int32) (x2 : Int32) (x3 : Int32) (x4 : Int32) (x5 : Int32) (x6 : Int32) (x7 : Int32) (x8 : Int32) (x9 : Int32) (k0 : Int32) : Option ((Int32 × Int32 × Int32) ⊕ (Int32 × Int32)) := if 0 ≤ x7 then (Option.bind (q_fI 12 14 g x0) fun v16 => if x7 < v16 then (jX12_around_115_37 g x0 x1 x2 x3 x4 x5 x6 x7 x8 x9 k0 x7) else (Option.bind (q_fI 12 14 g x0) fun v38 => jX12_around_115_37 g x0 x1 x2 x3 x4 x5 x6 x7 x8 x9 k0 (v38 - (1 : Int32)))) else (jX12_around_115_37 g x0 x1 x2 x3 x4 x5 x6 x7 x8 x9 k0 (0 : Int32))
theorem pjX12_around_84_37 {d : Nat} {Q : ps_Rs → ps_G → Prop} {g : ps_G} {x0 : Nat} {x1 : Int32} {x2 : Int32} {x3 : Int32} {x4 : Int32} {x5 : Int32} {x6 : Int32} {x7 : Int32} {x8 : Int32} {x9 : Int32} {k0 : Int32} {x : (Int32 × Int32 × Int32) ⊕ (Int32 × Int32)} (h : jX12_around_84_37 g x0 x1 x2 x3 x4 x5 x6 x7 x8 x9 k0 = some x) (hh : ∀ s' : Int32 × Int32 × Int32, x = .inl s' → ps_At mX12_around (d + 1) 37 [(0, .ref x0), (1, .int x1), (2, .int x2), (3, .int x3), (4, .int x4), (5, .int s'.1), (6, .int s'.2.1), (7, .int x7), (8, .int s'.2.2)] [] g Q) (he : ∀ r' : Int32 × Int32, x = .inr r' → ps_At mX12_around (d + 1) 196 [(0, .ref x0), (1, .int x1), (2, .int x2), (3, .int x3), (4, .int x4), (5, .int r'.1), (6, .int r'.2), (7, .int x7)] [] g Q) : ps_At mX12_around (d + 1) 84 [(0, .ref x0), (1, .int x1), (2, .int x2), (3, .int x3), (4, .int x4), (5, .int x5), (6, .int x6), (7, .int x7), (8, .int x8), (9, .int x9)] [.int k0] g Q := by
  unfold jX12_around_84_37 at h
  refine sX12_around_84 ?_
  refine ⟨by decide, ?_⟩
  refine And.intro (fun hc14 => ?_) (fun hc14 => ?_)
  · replace h := q_ifp (hc14) h
    refine sX12_around_95 ?_
    replace h := q_be h
    obtain ⟨v16, hv, h⟩ := h
    replace hv := q_fI_e hv
    obtain ⟨_, cv16, dv16⟩ := hv
    refine ⟨⟨some _, rfl⟩, _, _, cv16, dv16, ?_⟩
    refine And.intro (fun hc17 => ?_) (fun hc17 => ?_)
    · replace h := q_ifp (hc17) h
      refine sX12_around_113 ?_
      exact ps_weak (pjX12_around_115_37 h hh he) ⟨rfl, rfl, rfl, rfl, rfl, rfl, rfl, rfl, rfl, rfl, rfl, trivial⟩
    · replace h := q_ifn (hc17) h
      replace h := q_be h
      obtain ⟨v38, hv, h⟩ := h
      replace hv := q_fI_e hv
      obtain ⟨_, cv38, dv38⟩ := hv
      refine ⟨⟨some _, rfl⟩, _, _, cv38, dv38, ?_⟩
      exact ps_weak (pjX12_around_115_37 h hh he) ⟨rfl, rfl, rfl, rfl, rfl, rfl, rfl, rfl, rfl, rfl, rfl, trivial⟩
  · replace h := q_ifn (hc14) h
    exact ps_weak (pjX12_around_115_37 h hh he) ⟨rfl, rfl, rfl, rfl, rfl, rfl, rfl, rfl, rfl, rfl, rfl, trivial⟩
noncomputable def bX12_around_37 (g : ps_G) (x0 : Nat) (x1 : Int32) (x2 : Int32) (x3 : Int32) (x4 : Int32) (x7 : Int32) (x5 : Int32) (x6 : Int32) (x8 : Int32) : Option ((Int32 × Int32 × Int32) ⊕ (Int32 × Int32)) := if (x3 + x2) < x8 then (some (.inr (x5, x6))) else (Option.bind (q_ob 12 g x0) fun u7 => Option.bind (fX12_isPlace g x0 x8 x7) fun v8 => if 0 ≤ x8 then (Option.bind (q_fI 12 13 g x0) fun v11 => if x8 < v11 then (jX12_around_84_37 g x0 x1 x2 x3 x4 x5 x6 x7 x8 v8 x8) else (Option.bind (q_fI 12 13 g x0) fun v43 => jX12_around_84_37 g x0 x1 x2 x3 x4 x5 x6 x7 x8 v8 (v43 - (1 : Int32)))) else (jX12_around_84_37 g x0 x1 x2 x3 x4 x5 x6 x7 x8 v8 (0 : Int32)))
theorem pbX12_around_37 {d : Nat} {Q : ps_Rs → ps_G → Prop} {g : ps_G} {x0 : Nat} {x1 : Int32} {x2 : Int32} {x3 : Int32} {x4 : Int32} {x7 : Int32} {x5 : Int32} {x6 : Int32} {x8 : Int32} {x : (Int32 × Int32 × Int32) ⊕ (Int32 × Int32)} (h : bX12_around_37 g x0 x1 x2 x3 x4 x7 x5 x6 x8 = some x) (hh : ∀ s' : Int32 × Int32 × Int32, x = .inl s' → ps_At mX12_around (d + 1) 37 [(0, .ref x0), (1, .int x1), (2, .int x2), (3, .int x3), (4, .int x4), (5, .int s'.1), (6, .int s'.2.1), (7, .int x7), (8, .int s'.2.2)] [] g Q) (he : ∀ r' : Int32 × Int32, x = .inr r' → ps_At mX12_around (d + 1) 196 [(0, .ref x0), (1, .int x1), (2, .int x2), (3, .int x3), (4, .int x4), (5, .int r'.1), (6, .int r'.2), (7, .int x7)] [] g Q) : ps_At mX12_around (d + 1) 37 [(0, .ref x0), (1, .int x1), (2, .int x2), (3, .int x3), (4, .int x4), (5, .int x5), (6, .int x6), (7, .int x7), (8, .int x8)] [] g Q := by
  unfold bX12_around_37 at h
  refine sX12_around_37 ?_
  refine And.intro (fun hc5 => ?_) (fun hc5 => ?_)
  · replace h := q_ifp (hc5) h
    exact ps_weak (he (x5, x6) (Option.some.inj h).symm) ⟨rfl, rfl, rfl, rfl, rfl, rfl, rfl, rfl, trivial⟩
  · replace h := q_ifn (hc5) h
    replace h := q_be h
    obtain ⟨u7, hv, h⟩ := h
    replace hv := q_ob_e hv
    obtain ⟨_, cu7⟩ := hv
    replace h := q_be h
    obtain ⟨v8, hv, h⟩ := h
    refine ⟨⟨some _, rfl⟩, ⟨_, cu7⟩, ?_⟩
    refine rX12_isPlace hv ?_
    refine ⟨by decide, ?_⟩
    refine And.intro (fun hc9 => ?_) (fun hc9 => ?_)
    · replace h := q_ifp (hc9) h
      refine sX12_around_64 ?_
      replace h := q_be h
      obtain ⟨v11, hv, h⟩ := h
      replace hv := q_fI_e hv
      obtain ⟨_, cv11, dv11⟩ := hv
      refine ⟨⟨some _, rfl⟩, _, _, cv11, dv11, ?_⟩
      refine And.intro (fun hc12 => ?_) (fun hc12 => ?_)
      · replace h := q_ifp (hc12) h
        refine sX12_around_82 ?_
        exact ps_weak (pjX12_around_84_37 h hh he) ⟨rfl, rfl, rfl, rfl, rfl, rfl, rfl, rfl, rfl, rfl, trivial⟩
      · replace h := q_ifn (hc12) h
        replace h := q_be h
        obtain ⟨v43, hv, h⟩ := h
        replace hv := q_fI_e hv
        obtain ⟨_, cv43, dv43⟩ := hv
        refine ⟨⟨some _, rfl⟩, _, _, cv43, dv43, ?_⟩
        exact ps_weak (pjX12_around_84_37 h hh he) ⟨rfl, rfl, rfl, rfl, rfl, rfl, rfl, rfl, rfl, rfl, trivial⟩
    · replace h := q_ifn (hc9) h
      exact ps_weak (pjX12_around_84_37 h hh he) ⟨rfl, rfl, rfl, rfl, rfl, rfl, rfl, rfl, rfl, rfl, trivial⟩
noncomputable def bX12_around_23 (g : ps_G) (x0 : Nat) (x1 : Int32) (x2 : Int32) (x3 : Int32) (x4 : Int32) (x5 : Int32) (x6 : Int32) (x7 : Int32) : Option ((Int32 × Int32 × Int32) ⊕ (Int32 × Int32)) := if (x4 + x2) < x7 then (some (.inr (x5, x6))) else (Option.bind (q_lp (fun s => bX12_around_37 g x0 x1 x2 x3 x4 x7 s.1 s.2.1 s.2.2) (x5, x6, x3 - x2)) fun s50 => some (.inl (s50.1, s50.2, x7 + (1 : Int32))))
theorem pbX12_around_23 {d : Nat} {Q : ps_Rs → ps_G → Prop} {g : ps_G} {x0 : Nat} {x1 : Int32} {x2 : Int32} {x3 : Int32} {x4 : Int32} {x5 : Int32} {x6 : Int32} {x7 : Int32} {x : (Int32 × Int32 × Int32) ⊕ (Int32 × Int32)} (h : bX12_around_23 g x0 x1 x2 x3 x4 x5 x6 x7 = some x) (hh : ∀ s' : Int32 × Int32 × Int32, x = .inl s' → ps_At mX12_around (d + 1) 23 [(0, .ref x0), (1, .int x1), (2, .int x2), (3, .int x3), (4, .int x4), (5, .int s'.1), (6, .int s'.2.1), (7, .int s'.2.2)] [] g Q) (he : ∀ r' : Int32 × Int32, x = .inr r' → ps_At mX12_around (d + 1) 202 [(1, .int x1), (2, .int x2), (5, .int r'.1), (6, .int r'.2)] [] g Q) : ps_At mX12_around (d + 1) 23 [(0, .ref x0), (1, .int x1), (2, .int x2), (3, .int x3), (4, .int x4), (5, .int x5), (6, .int x6), (7, .int x7)] [] g Q := by
  unfold bX12_around_23 at h
  refine sX12_around_23 ?_
  refine And.intro (fun hc4 => ?_) (fun hc4 => ?_)
  · replace h := q_ifp (hc4) h
    exact ps_weak (he (x5, x6) (Option.some.inj h).symm) ⟨rfl, rfl, rfl, rfl, trivial⟩
  · replace h := q_ifn (hc4) h
    refine ⟨by decide, ?_⟩
    replace h := q_be h
    obtain ⟨s50, hl, h⟩ := h
    refine ps_weak (q_lp_ok hl (fun s => ps_At mX12_around (d + 1) 37 [(0, .ref x0), (1, .int x1), (2, .int x2), (3, .int x3), (4, .int x4), (5, .int s.1), (6, .int s.2.1), (7, .int x7), (8, .int s.2.2)] [] g Q) (fun r => ps_At mX12_around (d + 1) 196 [(0, .ref x0), (1, .int x1), (2, .int x2), (3, .int x3), (4, .int x4), (5, .int r.1), (6, .int r.2), (7, .int x7)] [] g Q) (fun s x hb hh he => pbX12_around_37 hb hh he) ?_) ⟨rfl, rfl, rfl, rfl, rfl, rfl, rfl, rfl, rfl, trivial⟩
    refine (?_ : ps_At mX12_around (d + 1) 196 [(0, .ref x0), (1, .int x1), (2, .int x2), (3, .int x3), (4, .int x4), (5, .int s50.1), (6, .int s50.2), (7, .int x7)] [] g Q)
    refine sX12_around_196 ?_
    refine ⟨by decide, ?_⟩
    exact ps_weak (hh (s50.1, s50.2, x7 + (1 : Int32)) (Option.some.inj h).symm) ⟨rfl, rfl, rfl, rfl, rfl, rfl, rfl, rfl, trivial⟩
noncomputable def jX12_around_235 (g : ps_G) (k0 : Int32) : Option (Int32) := some k0
theorem pjX12_around_235 {d : Nat} {Q : ps_Rs → ps_G → Prop} {g : ps_G} {k0 : Int32} {r : Int32} (h : jX12_around_235 g k0 = some r) (hk : Q (.inl (some (.int r))) g) : ps_At mX12_around (d + 1) 235 [] [.int k0] g Q := by
  unfold jX12_around_235 at h
  refine sX12_around_235 ?_
  cases h
  exact ⟨rfl, hk⟩
noncomputable def fX12_around (g : ps_G) (x0 : Nat) (x1 : Int32) (x2 : Int32) (x3 : Int32) (x4 : Int32) : Option (Int32) := Option.bind (q_lp (fun s => bX12_around_23 g x0 x1 x2 x3 x4 s.1 s.2.1 s.2.2) ((if ¬ x1 = (1 : Int32) then (255 : Int32) else (0 : Int32)), (0 : Int32), x4 - x2)) fun s53 => if ¬ x1 = (3 : Int32) then (jX12_around_235 g s53.1) else (Option.bind (q_div (s53.2 + (((((2 : Int32) * x2) + (1 : Int32)) * (((2 : Int32) * x2) + (1 : Int32))) / (2 : Int32))) ((((2 : Int32) * x2) + (1 : Int32)) * (((2 : Int32) * x2) + (1 : Int32)))) fun v56 => jX12_around_235 g v56)
theorem rX12_around {d : Nat} {Q : ps_Rs → ps_G → Prop} {g : ps_G} {x0 : Nat} {x1 : Int32} {x2 : Int32} {x3 : Int32} {x4 : Int32} {r : Int32} (h : fX12_around g x0 x1 x2 x3 x4 = some r) (hk : Q (.inl (some (.int r))) g) : ps_Ok mX12_around (d + 1) [.ref x0, .int x1, .int x2, .int x3, .int x4] g Q := by
  unfold fX12_around at h
  refine sX12_around_0 ?_
  have kJ3 : ∀ w2 : Int32, w2 = (if ¬ x1 = (1 : Int32) then (255 : Int32) else (0 : Int32)) → ps_At mX12_around (d + 1) 12 [(0, .ref x0), (1, .int x1), (2, .int x2), (3, .int x3), (4, .int x4)] [.int w2] g Q := by
    rintro _ rfl
    refine sX12_around_12 ?_
    refine ⟨by decide, by decide, by decide, ?_⟩
    replace h := q_be h
    obtain ⟨s53, hl, h⟩ := h
    refine ps_weak (q_lp_ok hl (fun s => ps_At mX12_around (d + 1) 23 [(0, .ref x0), (1, .int x1), (2, .int x2), (3, .int x3), (4, .int x4), (5, .int s.1), (6, .int s.2.1), (7, .int s.2.2)] [] g Q) (fun r => ps_At mX12_around (d + 1) 202 [(1, .int x1), (2, .int x2), (5, .int r.1), (6, .int r.2)] [] g Q) (fun s x hb hh he => pbX12_around_23 hb hh he) ?_) ⟨rfl, rfl, rfl, rfl, rfl, rfl, rfl, rfl, trivial⟩
    refine (?_ : ps_At mX12_around (d + 1) 202 [(1, .int x1), (2, .int x2), (5, .int s53.1), (6, .int s53.2)] [] g Q)
    refine sX12_around_202 ?_
    refine ⟨by decide, ?_⟩
    refine And.intro (fun hc54 => ?_) (fun hc54 => ?_)
    · replace h := q_ifp (hc54) h
      refine sX12_around_233 ?_
      exact ps_weak (pjX12_around_235 h hk) trivial
    · replace h := q_ifn (hc54) h
      replace h := q_be h
      obtain ⟨v56, hv, h⟩ := h
      replace hv := q_div_e hv
      obtain ⟨zv56, yv56⟩ := hv
      refine ⟨by decide, _, rfl, zv56, _, yv56, ?_⟩
      exact ps_weak (pjX12_around_235 h hk) trivial
  refine And.intro (fun hc1 => ?_) (fun hc1 => ?_)
  · refine sX12_around_9 ?_
    exact ps_weak (kJ3 _ (if_pos (hc1)).symm) ⟨rfl, rfl, rfl, rfl, rfl, trivial⟩
  · exact ps_weak (kJ3 _ (if_neg (hc1)).symm) ⟨rfl, rfl, rfl, rfl, rfl, trivial⟩
noncomputable def bX12_reselect_67 (x0 : Nat) (x1 : Int32) (x2 : Int32) (x3 : Int32) (x4 : Int32) (g : ps_G) : Option ((Int32 × ps_G) ⊕ (ps_G)) := Option.bind (q_fI 12 13 g x0) fun v9 => Option.bind (q_fI 12 14 g x0) fun v10 => if (v9 * v10) ≤ x4 then (some (.inr g)) else (Option.bind (q_fR 12 32 g x0) fun v13 => Option.bind (v13) fun a14 => Option.bind (q_fR 12 31 g x0) fun v15 => Option.bind (v15) fun a16 => Option.bind (q_aI g a16 x4) fun v17 => Option.bind (q_wI g a14 x4 v17) fun g18 => some (.inl (x4 + (1 : Int32), g18)))
theorem pbX12_reselect_67 {d : Nat} {Q : ps_Rs → ps_G → Prop}  {x0 : Nat} {x1 : Int32} {x2 : Int32} {x3 : Int32} {x4 : Int32} {g : ps_G} {x : (Int32 × ps_G) ⊕ (ps_G)} (h : bX12_reselect_67 x0 x1 x2 x3 x4 g = some x) (hh : ∀ s' : Int32 × ps_G, x = .inl s' → ps_At mX12_reselect (d + 2) 67 [(0, .ref x0), (1, .int x1), (2, .int x2), (3, .int x3), (4, .int s'.1)] [] s'.2 Q) (he : ∀ r' : ps_G, x = .inr r' → ps_At mX12_reselect (d + 2) 101 [(0, .ref x0), (1, .int x1), (2, .int x2), (3, .int x3)] [] r' Q) : ps_At mX12_reselect (d + 2) 67 [(0, .ref x0), (1, .int x1), (2, .int x2), (3, .int x3), (4, .int x4)] [] g Q := by
  unfold bX12_reselect_67 at h
  refine sX12_reselect_67 ?_
  replace h := q_be h
  obtain ⟨v9, hv, h⟩ := h
  replace hv := q_fI_e hv
  obtain ⟨_, cv9, dv9⟩ := hv
  replace h := q_be h
  obtain ⟨v10, hv, h⟩ := h
  replace hv := q_fI_e hv
  obtain ⟨_, cv10, dv10⟩ := hv
  refine ⟨⟨some _, rfl⟩, _, _, cv9, dv9, ⟨some _, rfl⟩, _, _, cv10, dv10, ?_⟩
  refine And.intro (fun hc11 => ?_) (fun hc11 => ?_)
  · replace h := q_ifp (hc11) h
    exact ps_weak (he g (Option.some.inj h).symm) ⟨rfl, rfl, rfl, rfl, trivial⟩
  · replace h := q_ifn (hc11) h
    replace h := q_be h
    obtain ⟨v13, hv, h⟩ := h
    replace hv := q_fR_e hv
    obtain ⟨_, cv13, dv13⟩ := hv
    replace h := q_be h
    obtain ⟨a14, ea14, h⟩ := h
    subst ea14
    replace h := q_be h
    obtain ⟨v15, hv, h⟩ := h
    replace hv := q_fR_e hv
    obtain ⟨_, cv15, dv15⟩ := hv
    replace h := q_be h
    obtain ⟨a16, ea16, h⟩ := h
    subst ea16
    replace h := q_be h
    obtain ⟨v17, hv, h⟩ := h
    replace hv := q_aI_e hv
    obtain ⟨_, _, cv17, iv17, yv17⟩ := hv
    replace h := q_be h
    obtain ⟨g18, hv, h⟩ := h
    replace hv := q_wI_e hv
    obtain ⟨_, _, cg18, pg18, ig18, yg18⟩ := hv
    refine ⟨⟨some _, rfl⟩, _, _, cv13, dv13, ⟨some _, rfl⟩, _, _, cv15, dv15, _, _, cv17, iv17, _, yv17, _, _, cg18, pg18, ig18, _, yg18, by decide, ?_⟩
    exact ps_weak (hh (x4 + (1 : Int32), g18) (Option.some.inj h).symm) ⟨rfl, rfl, rfl, rfl, rfl, trivial⟩
noncomputable def jX12_reselect_171_116 (g : ps_G) (x0 : Nat) (x1 : Int32) (x2 : Int32) (x3 : Int32) (x4 : Int32) (x5 : Int32) (k0 : Option Nat) (k1 : Int32) (k2 : Int32) : Option ((Int32 × ps_G) ⊕ (ps_G)) := Option.bind (k0) fun a35 => Option.bind (q_wI g a35 k1 k2) fun g36 => some (.inl (x5 + (1 : Int32), g36))
theorem pjX12_reselect_171_116 {d : Nat} {Q : ps_Rs → ps_G → Prop} {g : ps_G} {x0 : Nat} {x1 : Int32} {x2 : Int32} {x3 : Int32} {x4 : Int32} {x5 : Int32} {k0 : Option Nat} {k1 : Int32} {k2 : Int32} {x : (Int32 × ps_G) ⊕ (ps_G)} (h : jX12_reselect_171_116 g x0 x1 x2 x3 x4 x5 k0 k1 k2 = some x) (hh : ∀ s' : Int32 × ps_G, x = .inl s' → ps_At mX12_reselect (d + 2) 116 [(0, .ref x0), (1, .int x1), (2, .int x2), (3, .int x3), (4, .int x4), (5, .int s'.1)] [] s'.2 Q) (he : ∀ r' : ps_G, x = .inr r' → ps_At mX12_reselect (d + 2) 178 [(0, .ref x0), (1, .int x1), (2, .int x2), (3, .int x3), (4, .int x4)] [] r' Q) : ps_At mX12_reselect (d + 2) 171 [(0, .ref x0), (1, .int x1), (2, .int x2), (3, .int x3), (4, .int x4), (5, .int x5)] [.int k2, .int k1, va_rf k0] g Q := by
  unfold jX12_reselect_171_116 at h
  refine sX12_reselect_171 ?_
  replace h := q_be h
  obtain ⟨a35, ea35, h⟩ := h
  subst ea35
  replace h := q_be h
  obtain ⟨g36, hv, h⟩ := h
  replace hv := q_wI_e hv
  obtain ⟨_, _, cg36, pg36, ig36, yg36⟩ := hv
  refine ⟨_, _, cg36, pg36, ig36, _, yg36, by decide, ?_⟩
  exact ps_weak (hh (x5 + (1 : Int32), g36) (Option.some.inj h).symm) ⟨rfl, rfl, rfl, rfl, rfl, rfl, trivial⟩
noncomputable def bX12_reselect_116 (x0 : Nat) (x1 : Int32) (x2 : Int32) (x3 : Int32) (x4 : Int32) (x5 : Int32) (g : ps_G) : Option ((Int32 × ps_G) ⊕ (ps_G)) := Option.bind (q_fI 12 13 g x0) fun v24 => if v24 ≤ x5 then (some (.inr g)) else (Option.bind (q_fR 12 31 g x0) fun v27 => Option.bind (v27) fun a28 => Option.bind (q_ob 12 g x0) fun u29 => Option.bind (fX12_at g x0 x5 x4) fun v30 => if ¬ x1 = 0 then (Option.bind (q_ob 12 g x0) fun u33 => Option.bind (fX12_around g x0 x1 x2 x5 x4) fun v34 => jX12_reselect_171_116 g x0 x1 x2 x3 x4 x5 (some a28) v30 v34) else (Option.bind (q_fR 12 32 g x0) fun v37 => Option.bind (v37) fun a38 => Option.bind (q_ob 12 g x0) fun u39 => Option.bind (fX12_at g x0 x5 x4) fun v40 => Option.bind (q_aI g a38 v40) fun v41 => jX12_reselect_171_116 g x0 x1 x2 x3 x4 x5 (some a28) v30 ((255 : Int32) - v41)))
theorem pbX12_reselect_116 {d : Nat} {Q : ps_Rs → ps_G → Prop}  {x0 : Nat} {x1 : Int32} {x2 : Int32} {x3 : Int32} {x4 : Int32} {x5 : Int32} {g : ps_G} {x : (Int32 × ps_G) ⊕ (ps_G)} (h : bX12_reselect_116 x0 x1 x2 x3 x4 x5 g = some x) (hh : ∀ s' : Int32 × ps_G, x = .inl s' → ps_At mX12_reselect (d + 2) 116 [(0, .ref x0), (1, .int x1), (2, .int x2), (3, .int x3), (4, .int x4), (5, .int s'.1)] [] s'.2 Q) (he : ∀ r' : ps_G, x = .inr r' → ps_At mX12_reselect (d + 2) 178 [(0, .ref x0), (1, .int x1), (2, .int x2), (3, .int x3), (4, .int x4)] [] r' Q) : ps_At mX12_reselect (d + 2) 116 [(0, .ref x0), (1, .int x1), (2, .int x2), (3, .int x3), (4, .int x4), (5, .int x5)] [] g Q := by
  unfold bX12_reselect_116 at h
  refine sX12_reselect_116 ?_
  replace h := q_be h
  obtain ⟨v24, hv, h⟩ := h
  replace hv := q_fI_e hv
  obtain ⟨_, cv24, dv24⟩ := hv
  refine ⟨⟨some _, rfl⟩, _, _, cv24, dv24, ?_⟩
  refine And.intro (fun hc25 => ?_) (fun hc25 => ?_)
  · replace h := q_ifp (hc25) h
    exact ps_weak (he g (Option.some.inj h).symm) ⟨rfl, rfl, rfl, rfl, rfl, trivial⟩
  · replace h := q_ifn (hc25) h
    replace h := q_be h
    obtain ⟨v27, hv, h⟩ := h
    replace hv := q_fR_e hv
    obtain ⟨_, cv27, dv27⟩ := hv
    replace h := q_be h
    obtain ⟨a28, ea28, h⟩ := h
    subst ea28
    replace h := q_be h
    obtain ⟨u29, hv, h⟩ := h
    replace hv := q_ob_e hv
    obtain ⟨_, cu29⟩ := hv
    replace h := q_be h
    obtain ⟨v30, hv, h⟩ := h
    refine ⟨⟨some _, rfl⟩, _, _, cv27, dv27, ⟨some _, rfl⟩, ⟨_, cu29⟩, ?_⟩
    refine rX12_at hv ?_
    refine And.intro (fun hc31 => ?_) (fun hc31 => ?_)
    · replace h := q_ifp (hc31) h
      refine sX12_reselect_161 ?_
      replace h := q_be h
      obtain ⟨u33, hv, h⟩ := h
      replace hv := q_ob_e hv
      obtain ⟨_, cu33⟩ := hv
      replace h := q_be h
      obtain ⟨v34, hv, h⟩ := h
      refine ⟨⟨some _, rfl⟩, ⟨_, cu33⟩, ?_⟩
      refine rX12_around hv ?_
      exact ps_weak (pjX12_reselect_171_116 h hh he) ⟨rfl, rfl, rfl, rfl, rfl, rfl, trivial⟩
    · replace h := q_ifn (hc31) h
      replace h := q_be h
      obtain ⟨v37, hv, h⟩ := h
      replace hv := q_fR_e hv
      obtain ⟨_, cv37, dv37⟩ := hv
      replace h := q_be h
      obtain ⟨a38, ea38, h⟩ := h
      subst ea38
      replace h := q_be h
      obtain ⟨u39, hv, h⟩ := h
      replace hv := q_ob_e hv
      obtain ⟨_, cu39⟩ := hv
      replace h := q_be h
      obtain ⟨v40, hv, h⟩ := h
      refine ⟨⟨some _, rfl⟩, _, _, cv37, dv37, ⟨some _, rfl⟩, ⟨_, cu39⟩, ?_⟩
      refine rX12_at hv ?_
      replace h := q_be h
      obtain ⟨v41, hv, h⟩ := h
      replace hv := q_aI_e hv
      obtain ⟨_, _, cv41, iv41, yv41⟩ := hv
      refine ⟨_, _, cv41, iv41, _, yv41, ?_⟩
      exact ps_weak (pjX12_reselect_171_116 h hh he) ⟨rfl, rfl, rfl, rfl, rfl, rfl, trivial⟩
noncomputable def bX12_reselect_104 (x0 : Nat) (x1 : Int32) (x2 : Int32) (x3 : Int32) (x4 : Int32) (g : ps_G) : Option ((Int32 × ps_G) ⊕ (ps_G)) := Option.bind (q_fI 12 14 g x0) fun v22 => if v22 ≤ x4 then (some (.inr g)) else (Option.bind (q_lp (fun s => bX12_reselect_116 x0 x1 x2 x3 x4 s.1 s.2) ((0 : Int32), g)) fun s46 => some (.inl (x4 + (1 : Int32), s46)))
theorem pbX12_reselect_104 {d : Nat} {Q : ps_Rs → ps_G → Prop}  {x0 : Nat} {x1 : Int32} {x2 : Int32} {x3 : Int32} {x4 : Int32} {g : ps_G} {x : (Int32 × ps_G) ⊕ (ps_G)} (h : bX12_reselect_104 x0 x1 x2 x3 x4 g = some x) (hh : ∀ s' : Int32 × ps_G, x = .inl s' → ps_At mX12_reselect (d + 2) 104 [(0, .ref x0), (1, .int x1), (2, .int x2), (3, .int x3), (4, .int s'.1)] [] s'.2 Q) (he : ∀ r' : ps_G, x = .inr r' → ps_At mX12_reselect (d + 2) 184 [(0, .ref x0), (1, .int x1), (2, .int x2), (3, .int x3)] [] r' Q) : ps_At mX12_reselect (d + 2) 104 [(0, .ref x0), (1, .int x1), (2, .int x2), (3, .int x3), (4, .int x4)] [] g Q := by
  unfold bX12_reselect_104 at h
  refine sX12_reselect_104 ?_
  replace h := q_be h
  obtain ⟨v22, hv, h⟩ := h
  replace hv := q_fI_e hv
  obtain ⟨_, cv22, dv22⟩ := hv
  refine ⟨⟨some _, rfl⟩, _, _, cv22, dv22, ?_⟩
  refine And.intro (fun hc23 => ?_) (fun hc23 => ?_)
  · replace h := q_ifp (hc23) h
    exact ps_weak (he g (Option.some.inj h).symm) ⟨rfl, rfl, rfl, rfl, trivial⟩
  · replace h := q_ifn (hc23) h
    refine ⟨by decide, ?_⟩
    replace h := q_be h
    obtain ⟨s46, hl, h⟩ := h
    refine ps_weak (q_lp_ok hl (fun s => ps_At mX12_reselect (d + 2) 116 [(0, .ref x0), (1, .int x1), (2, .int x2), (3, .int x3), (4, .int x4), (5, .int s.1)] [] s.2 Q) (fun r => ps_At mX12_reselect (d + 2) 178 [(0, .ref x0), (1, .int x1), (2, .int x2), (3, .int x3), (4, .int x4)] [] r Q) (fun s x hb hh he => pbX12_reselect_116 hb hh he) ?_) ⟨rfl, rfl, rfl, rfl, rfl, rfl, trivial⟩
    refine (?_ : ps_At mX12_reselect (d + 2) 178 [(0, .ref x0), (1, .int x1), (2, .int x2), (3, .int x3), (4, .int x4)] [] s46 Q)
    refine sX12_reselect_178 ?_
    refine ⟨by decide, ?_⟩
    exact ps_weak (hh (x4 + (1 : Int32), s46) (Option.some.inj h).symm) ⟨rfl, rfl, rfl, rfl, rfl, trivial⟩
noncomputable def bX12_reselect_50 (x0 : Nat) (x1 : Int32) (x2 : Int32) (x3 : Int32) (g : ps_G) : Option ((Int32 × ps_G) ⊕ (ps_G)) := if (if ¬ x1 = (3 : Int32) then (1 : Int32) else (2 : Int32)) ≤ x3 then (some (.inr g)) else (Option.bind (q_lp (fun s => bX12_reselect_67 x0 x1 x2 x3 s.1 s.2) ((0 : Int32), g)) fun s21 => Option.bind (q_lp (fun s => bX12_reselect_104 x0 x1 x2 x3 s.1 s.2) ((0 : Int32), s21)) fun s49 => some (.inl (x3 + (1 : Int32), s49)))
theorem pbX12_reselect_50 {d : Nat} {Q : ps_Rs → ps_G → Prop}  {x0 : Nat} {x1 : Int32} {x2 : Int32} {x3 : Int32} {g : ps_G} {x : (Int32 × ps_G) ⊕ (ps_G)} (h : bX12_reselect_50 x0 x1 x2 x3 g = some x) (hh : ∀ s' : Int32 × ps_G, x = .inl s' → ps_At mX12_reselect (d + 2) 50 [(0, .ref x0), (1, .int x1), (2, .int x2), (3, .int s'.1)] [] s'.2 Q) (he : ∀ r' : ps_G, x = .inr r' → ps_At mX12_reselect (d + 2) 190 [(0, .ref x0)] [] r' Q) : ps_At mX12_reselect (d + 2) 50 [(0, .ref x0), (1, .int x1), (2, .int x2), (3, .int x3)] [] g Q := by
  unfold bX12_reselect_50 at h
  refine sX12_reselect_50 ?_
  have kJ7 : ∀ w6 : Int32, w6 = (if ¬ x1 = (3 : Int32) then (1 : Int32) else (2 : Int32)) → ps_At mX12_reselect (d + 2) 61 [(0, .ref x0), (1, .int x1), (2, .int x2), (3, .int x3)] [.int w6, .int x3] g Q := by
    rintro _ rfl
    refine sX12_reselect_61 ?_
    refine And.intro (fun hc8 => ?_) (fun hc8 => ?_)
    · replace h := q_ifp (hc8) h
      exact ps_weak (he g (Option.some.inj h).symm) ⟨rfl, trivial⟩
    · replace h := q_ifn (hc8) h
      refine ⟨by decide, ?_⟩
      replace h := q_be h
      obtain ⟨s21, hl, h⟩ := h
      refine ps_weak (q_lp_ok hl (fun s => ps_At mX12_reselect (d + 2) 67 [(0, .ref x0), (1, .int x1), (2, .int x2), (3, .int x3), (4, .int s.1)] [] s.2 Q) (fun r => ps_At mX12_reselect (d + 2) 101 [(0, .ref x0), (1, .int x1), (2, .int x2), (3, .int x3)] [] r Q) (fun s x hb hh he => pbX12_reselect_67 hb hh he) ?_) ⟨rfl, rfl, rfl, rfl, rfl, trivial⟩
      refine (?_ : ps_At mX12_reselect (d + 2) 101 [(0, .ref x0), (1, .int x1), (2, .int x2), (3, .int x3)] [] s21 Q)
      refine sX12_reselect_101 ?_
      refine ⟨by decide, ?_⟩
      replace h := q_be h
      obtain ⟨s49, hl, h⟩ := h
      refine ps_weak (q_lp_ok hl (fun s => ps_At mX12_reselect (d + 2) 104 [(0, .ref x0), (1, .int x1), (2, .int x2), (3, .int x3), (4, .int s.1)] [] s.2 Q) (fun r => ps_At mX12_reselect (d + 2) 184 [(0, .ref x0), (1, .int x1), (2, .int x2), (3, .int x3)] [] r Q) (fun s x hb hh he => pbX12_reselect_104 hb hh he) ?_) ⟨rfl, rfl, rfl, rfl, rfl, trivial⟩
      refine (?_ : ps_At mX12_reselect (d + 2) 184 [(0, .ref x0), (1, .int x1), (2, .int x2), (3, .int x3)] [] s49 Q)
      refine sX12_reselect_184 ?_
      refine ⟨by decide, ?_⟩
      exact ps_weak (hh (x3 + (1 : Int32), s49) (Option.some.inj h).symm) ⟨rfl, rfl, rfl, rfl, trivial⟩
  refine And.intro (fun hc5 => ?_) (fun hc5 => ?_)
  · refine sX12_reselect_60 ?_
    exact ps_weak (kJ7 _ (if_pos (hc5)).symm) ⟨rfl, rfl, rfl, rfl, trivial⟩
  · exact ps_weak (kJ7 _ (if_neg (hc5)).symm) ⟨rfl, rfl, rfl, rfl, trivial⟩
noncomputable def jX12_reselect_36 (g : ps_G) (x0 : Nat) (x1 : Int32) (x2 : Int32) (k0 : Nat) (k1 : Int32) : Option (Int32 × ps_G) := Option.bind (q_sI 12 0 g k0 k1) fun g2 => Option.bind (q_fI 12 0 g2 x0) fun v3 => if v3 ≤ 0 then (Option.bind (q_lp (fun s => bX12_reselect_50 x0 x1 x2 s.1 s.2) ((0 : Int32), g2)) fun s52 => Option.bind (q_ob 12 s52 x0) fun u53 => Option.bind (fX12_above s52 x0) fun v54 => some (v54, s52)) else (some ((0 : Int32), g2))
theorem pjX12_reselect_36 {d : Nat} {Q : ps_Rs → ps_G → Prop} {g : ps_G} {x0 : Nat} {x1 : Int32} {x2 : Int32} {k0 : Nat} {k1 : Int32} {r : Int32 × ps_G} (h : jX12_reselect_36 g x0 x1 x2 k0 k1 = some r) (hk : Q (.inl (some (.int r.1))) r.2) : ps_At mX12_reselect (d + 2) 36 [(0, .ref x0), (1, .int x1), (2, .int x2)] [.int k1, .ref k0] g Q := by
  unfold jX12_reselect_36 at h
  refine sX12_reselect_36 ?_
  replace h := q_be h
  obtain ⟨g2, hv, h⟩ := h
  replace hv := q_sI_e hv
  obtain ⟨_, cg2, dg2, yg2⟩ := hv
  replace h := q_be h
  obtain ⟨v3, hv, h⟩ := h
  replace hv := q_fI_e hv
  obtain ⟨_, cv3, dv3⟩ := hv
  refine ⟨_, cg2, dg2, rfl, rfl, _, yg2, ⟨some _, rfl⟩, _, _, cv3, dv3, ?_⟩
  refine And.intro (fun hc4 => ?_) (fun hc4 => ?_)
  · replace h := q_ifp (hc4) h
    refine sX12_reselect_48 ?_
    refine ⟨by decide, ?_⟩
    replace h := q_be h
    obtain ⟨s52, hl, h⟩ := h
    refine ps_weak (q_lp_ok hl (fun s => ps_At mX12_reselect (d + 2) 50 [(0, .ref x0), (1, .int x1), (2, .int x2), (3, .int s.1)] [] s.2 Q) (fun r => ps_At mX12_reselect (d + 2) 190 [(0, .ref x0)] [] r Q) (fun s x hb hh he => pbX12_reselect_50 hb hh he) ?_) ⟨rfl, rfl, rfl, rfl, trivial⟩
    refine (?_ : ps_At mX12_reselect (d + 2) 190 [(0, .ref x0)] [] s52 Q)
    refine sX12_reselect_190 ?_
    replace h := q_be h
    obtain ⟨u53, hv, h⟩ := h
    replace hv := q_ob_e hv
    obtain ⟨_, cu53⟩ := hv
    replace h := q_be h
    obtain ⟨v54, hv, h⟩ := h
    refine ⟨⟨some _, rfl⟩, ⟨_, cu53⟩, ?_⟩
    refine rX12_above hv ?_
    cases h
    exact ⟨rfl, hk⟩
  · replace h := q_ifn (hc4) h
    cases h
    exact ⟨rfl, hk⟩
noncomputable def jX12_reselect_35 (g : ps_G) (x0 : Nat) (x1 : Int32) (x2 : Int32) (k0 : Nat) : Option (Int32 × ps_G) := jX12_reselect_36 g x0 x1 x2 k0 (1 : Int32)
theorem pjX12_reselect_35 {d : Nat} {Q : ps_Rs → ps_G → Prop} {g : ps_G} {x0 : Nat} {x1 : Int32} {x2 : Int32} {k0 : Nat} {r : Int32 × ps_G} (h : jX12_reselect_35 g x0 x1 x2 k0 = some r) (hk : Q (.inl (some (.int r.1))) r.2) : ps_At mX12_reselect (d + 2) 35 [(0, .ref x0), (1, .int x1), (2, .int x2)] [.ref k0] g Q := by
  unfold jX12_reselect_35 at h
  refine sX12_reselect_35 ?_
  exact ps_weak (pjX12_reselect_36 h hk) ⟨rfl, rfl, rfl, trivial⟩
noncomputable def jX12_reselect_31 (g : ps_G) (x0 : Nat) (x1 : Int32) (x2 : Int32) (k0 : Nat) : Option (Int32 × ps_G) := jX12_reselect_36 g x0 x1 x2 k0 (0 : Int32)
theorem pjX12_reselect_31 {d : Nat} {Q : ps_Rs → ps_G → Prop} {g : ps_G} {x0 : Nat} {x1 : Int32} {x2 : Int32} {k0 : Nat} {r : Int32 × ps_G} (h : jX12_reselect_31 g x0 x1 x2 k0 = some r) (hk : Q (.inl (some (.int r.1))) r.2) : ps_At mX12_reselect (d + 2) 31 [(0, .ref x0), (1, .int x1), (2, .int x2)] [.ref k0] g Q := by
  unfold jX12_reselect_31 at h
  refine sX12_reselect_31 ?_
  exact ps_weak (pjX12_reselect_36 h hk) ⟨rfl, rfl, rfl, trivial⟩
noncomputable def fX12_reselect (g : ps_G) (x0 : Nat) (x1 : Int32) (x2 : Int32) : Option (Int32 × ps_G) := if (fX12_in x1 (0 : Int32) (3 : Int32)) = 0 then (jX12_reselect_35 g x0 x1 x2 x0) else (if ¬ x1 = 0 then (if (fX12_in x2 (1 : Int32) (8 : Int32)) = 0 then (jX12_reselect_35 g x0 x1 x2 x0) else (jX12_reselect_31 g x0 x1 x2 x0)) else (if ¬ x2 = 0 then (jX12_reselect_35 g x0 x1 x2 x0) else (jX12_reselect_31 g x0 x1 x2 x0)))
theorem rX12_reselect {d : Nat} {Q : ps_Rs → ps_G → Prop} {g : ps_G} {x0 : Nat} {x1 : Int32} {x2 : Int32} {r : Int32 × ps_G} (h : fX12_reselect g x0 x1 x2 = some r) (hk : Q (.inl (some (.int r.1))) r.2) : ps_Ok mX12_reselect (d + 2) [.ref x0, .int x1, .int x2] g Q := by
  unfold fX12_reselect at h
  refine sX12_reselect_0 ?_
  refine ⟨⟨some _, rfl⟩, ?_⟩
  refine rX12_in rfl ?_
  refine And.intro (fun hc1 => ?_) (fun hc1 => ?_)
  · replace h := q_ifp (hc1) h
    exact ps_weak (pjX12_reselect_35 h hk) ⟨rfl, rfl, rfl, trivial⟩
  · replace h := q_ifn (hc1) h
    refine And.intro (fun hc57 => ?_) (fun hc57 => ?_)
    · replace h := q_ifp (hc57) h
      refine sX12_reselect_21 ?_
      refine rX12_in rfl ?_
      refine And.intro (fun hc59 => ?_) (fun hc59 => ?_)
      · replace h := q_ifp (hc59) h
        exact ps_weak (pjX12_reselect_35 h hk) ⟨rfl, rfl, rfl, trivial⟩
      · replace h := q_ifn (hc59) h
        exact ps_weak (pjX12_reselect_31 h hk) ⟨rfl, rfl, rfl, trivial⟩
    · replace h := q_ifn (hc57) h
      refine And.intro (fun hc62 => ?_) (fun hc62 => ?_)
      · replace h := q_ifp (hc62) h
        exact ps_weak (pjX12_reselect_35 h hk) ⟨rfl, rfl, rfl, trivial⟩
      · replace h := q_ifn (hc62) h
        exact ps_weak (pjX12_reselect_31 h hk) ⟨rfl, rfl, rfl, trivial⟩
noncomputable def jX12_selected_40 (g : ps_G) (k0 : Int32) : Option (Int32 × ps_G) := some (k0, g)
theorem pjX12_selected_40 {d : Nat} {Q : ps_Rs → ps_G → Prop} {g : ps_G} {k0 : Int32} {r : Int32 × ps_G} (h : jX12_selected_40 g k0 = some r) (hk : Q (.inl (some (.int r.1))) r.2) : ps_At mX12_selected (d + 1) 40 [] [.int k0] g Q := by
  unfold jX12_selected_40 at h
  refine sX12_selected_40 ?_
  cases h
  exact ⟨rfl, hk⟩
noncomputable def fX12_selected (g : ps_G) (x0 : Nat) (x1 : Int32) (x2 : Int32) : Option (Int32 × ps_G) := Option.bind (q_ob 12 g x0) fun u1 => Option.bind (fX12_isPlace g x0 x1 x2) fun v2 => Option.bind (q_sI 12 0 g x0 (if v2 = 0 then (1 : Int32) else (0 : Int32))) fun g6 => Option.bind (q_fI 12 0 g6 x0) fun v7 => if v7 ≤ 0 then (Option.bind (q_fR 12 31 g6 x0) fun v10 => Option.bind (v10) fun a11 => Option.bind (q_ob 12 g6 x0) fun u12 => Option.bind (fX12_at g6 x0 x1 x2) fun v13 => Option.bind (q_aI g6 a11 v13) fun v14 => jX12_selected_40 g6 v14) else (jX12_selected_40 g6 (0 : Int32))
theorem rX12_selected {d : Nat} {Q : ps_Rs → ps_G → Prop} {g : ps_G} {x0 : Nat} {x1 : Int32} {x2 : Int32} {r : Int32 × ps_G} (h : fX12_selected g x0 x1 x2 = some r) (hk : Q (.inl (some (.int r.1))) r.2) : ps_Ok mX12_selected (d + 1) [.ref x0, .int x1, .int x2] g Q := by
  unfold fX12_selected at h
  refine sX12_selected_0 ?_
  replace h := q_be h
  obtain ⟨u1, hv, h⟩ := h
  replace hv := q_ob_e hv
  obtain ⟨_, cu1⟩ := hv
  replace h := q_be h
  obtain ⟨v2, hv, h⟩ := h
  refine ⟨⟨some _, rfl⟩, ⟨some _, rfl⟩, ⟨_, cu1⟩, ?_⟩
  refine rX12_isPlace hv ?_
  have kJ5 : ∀ w4 : Int32, w4 = (if v2 = 0 then (1 : Int32) else (0 : Int32)) → ps_At mX12_selected (d + 1) 15 [(0, .ref x0), (1, .int x1), (2, .int x2)] [.int w4, .ref x0] g Q := by
    rintro _ rfl
    refine sX12_selected_15 ?_
    replace h := q_be h
    obtain ⟨g6, hv, h⟩ := h
    replace hv := q_sI_e hv
    obtain ⟨_, cg6, dg6, yg6⟩ := hv
    replace h := q_be h
    obtain ⟨v7, hv, h⟩ := h
    replace hv := q_fI_e hv
    obtain ⟨_, cv7, dv7⟩ := hv
    refine ⟨_, cg6, dg6, rfl, rfl, _, yg6, ⟨some _, rfl⟩, _, _, cv7, dv7, ?_⟩
    refine And.intro (fun hc8 => ?_) (fun hc8 => ?_)
    · replace h := q_ifp (hc8) h
      refine sX12_selected_29 ?_
      replace h := q_be h
      obtain ⟨v10, hv, h⟩ := h
      replace hv := q_fR_e hv
      obtain ⟨_, cv10, dv10⟩ := hv
      replace h := q_be h
      obtain ⟨a11, ea11, h⟩ := h
      subst ea11
      replace h := q_be h
      obtain ⟨u12, hv, h⟩ := h
      replace hv := q_ob_e hv
      obtain ⟨_, cu12⟩ := hv
      replace h := q_be h
      obtain ⟨v13, hv, h⟩ := h
      refine ⟨⟨some _, rfl⟩, _, _, cv10, dv10, ⟨some _, rfl⟩, ⟨_, cu12⟩, ?_⟩
      refine rX12_at hv ?_
      replace h := q_be h
      obtain ⟨v14, hv, h⟩ := h
      replace hv := q_aI_e hv
      obtain ⟨_, _, cv14, iv14, yv14⟩ := hv
      refine ⟨_, _, cv14, iv14, _, yv14, ?_⟩
      exact ps_weak (pjX12_selected_40 h hk) trivial
    · replace h := q_ifn (hc8) h
      exact ps_weak (pjX12_selected_40 h hk) trivial
  refine And.intro (fun hc3 => ?_) (fun hc3 => ?_)
  · refine sX12_selected_14 ?_
    exact ps_weak (kJ5 _ (if_pos (hc3)).symm) ⟨rfl, rfl, rfl, trivial⟩
  · exact ps_weak (kJ5 _ (if_neg (hc3)).symm) ⟨rfl, rfl, rfl, trivial⟩
noncomputable def fX12_front (g : ps_G) (x0 : Nat) (x1 : Int32) : Option (ps_G) := Option.bind (q_sI 12 0 g x0 (0 : Int32)) fun g1 => Option.bind (q_sI 12 34 g1 x0 x1) fun g2 => some g2
theorem rX12_front {d : Nat} {Q : ps_Rs → ps_G → Prop} {g : ps_G} {x0 : Nat} {x1 : Int32} {r : ps_G} (h : fX12_front g x0 x1 = some r) (hk : Q (.inl none) r) : ps_Ok mX12_front d [.ref x0, .int x1] g Q := by
  unfold fX12_front at h
  refine sX12_front_0 ?_
  replace h := q_be h
  obtain ⟨g1, hv, h⟩ := h
  replace hv := q_sI_e hv
  obtain ⟨_, cg1, dg1, yg1⟩ := hv
  replace h := q_be h
  obtain ⟨g2, hv, h⟩ := h
  replace hv := q_sI_e hv
  obtain ⟨_, cg2, dg2, yg2⟩ := hv
  cases h
  exact ⟨⟨some _, rfl⟩, _, cg1, dg1, rfl, rfl, _, yg1, ⟨some _, rfl⟩, _, cg2, dg2, rfl, rfl, _, yg2, rfl, rfl, hk⟩
noncomputable def jX12_why_38 (g : ps_G) (k0 : Int32) : Option (Int32) := some k0
theorem pjX12_why_38 {d : Nat} {Q : ps_Rs → ps_G → Prop} {g : ps_G} {k0 : Int32} {r : Int32} (h : jX12_why_38 g k0 = some r) (hk : Q (.inl (some (.int r))) g) : ps_At mX12_why (d + 3) 38 [] [.int k0] g Q := by
  unfold jX12_why_38 at h
  refine sX12_why_38 ?_
  cases h
  exact ⟨rfl, hk⟩
noncomputable def jX12_why_21 (g : ps_G) : Option (Int32) := jX12_why_38 g (1 : Int32)
theorem pjX12_why_21 {d : Nat} {Q : ps_Rs → ps_G → Prop} {g : ps_G}  {r : Int32} (h : jX12_why_21 g = some r) (hk : Q (.inl (some (.int r))) g) : ps_At mX12_why (d + 3) 21 [] [] g Q := by
  unfold jX12_why_21 at h
  refine sX12_why_21 ?_
  exact ps_weak (pjX12_why_38 h hk) trivial
noncomputable def jX12_why_25 (g : ps_G) (x0 : Nat) (x1 : Int32) : Option (Int32) := Option.bind (q_ob 12 g x0) fun u5 => Option.bind (fX12_isLayer g x0 x1) fun v6 => jX12_why_38 g (if v6 = 0 then (2 : Int32) else (0 : Int32))
theorem pjX12_why_25 {d : Nat} {Q : ps_Rs → ps_G → Prop} {g : ps_G} {x0 : Nat} {x1 : Int32} {r : Int32} (h : jX12_why_25 g x0 x1 = some r) (hk : Q (.inl (some (.int r))) g) : ps_At mX12_why (d + 3) 25 [(0, .ref x0), (1, .int x1)] [] g Q := by
  unfold jX12_why_25 at h
  refine sX12_why_25 ?_
  replace h := q_be h
  obtain ⟨u5, hv, h⟩ := h
  replace hv := q_ob_e hv
  obtain ⟨_, cu5⟩ := hv
  replace h := q_be h
  obtain ⟨v6, hv, h⟩ := h
  refine ⟨⟨some _, rfl⟩, ⟨_, cu5⟩, ?_⟩
  refine rX12_isLayer hv ?_
  have kJ9 : ∀ w8 : Int32, w8 = (if v6 = 0 then (2 : Int32) else (0 : Int32)) → ps_At mX12_why (d + 3) 38 [] [.int w8] g Q := by
    rintro _ rfl
    exact ps_weak (pjX12_why_38 h hk) trivial
  refine And.intro (fun hc7 => ?_) (fun hc7 => ?_)
  · refine sX12_why_37 ?_
    exact ps_weak (kJ9 _ (if_pos (hc7)).symm) trivial
  · exact ps_weak (kJ9 _ (if_neg (hc7)).symm) trivial
noncomputable def fX12_why (g : ps_G) (x0 : Nat) (x1 : Int32) (x2 : Int32) : Option (Int32) := if x2 = 0 then (jX12_why_21 g) else (Option.bind (q_ob 12 g x0) fun u2 => Option.bind (fX12_isLayer g x0 x1) fun v3 => if v3 = 0 then (jX12_why_25 g x0 x1) else (Option.bind (q_ob 12 g x0) fun u10 => Option.bind (fX12_is g x0 x1 (0 : Int32)) fun v11 => if ¬ v11 = 0 then (jX12_why_25 g x0 x1) else (jX12_why_21 g)))
theorem rX12_why {d : Nat} {Q : ps_Rs → ps_G → Prop} {g : ps_G} {x0 : Nat} {x1 : Int32} {x2 : Int32} {r : Int32} (h : fX12_why g x0 x1 x2 = some r) (hk : Q (.inl (some (.int r))) g) : ps_Ok mX12_why (d + 3) [.ref x0, .int x1, .int x2] g Q := by
  unfold fX12_why at h
  refine sX12_why_0 ?_
  refine And.intro (fun hc1 => ?_) (fun hc1 => ?_)
  · replace h := q_ifp (hc1) h
    exact ps_weak (pjX12_why_21 h hk) trivial
  · replace h := q_ifn (hc1) h
    replace h := q_be h
    obtain ⟨u2, hv, h⟩ := h
    replace hv := q_ob_e hv
    obtain ⟨_, cu2⟩ := hv
    replace h := q_be h
    obtain ⟨v3, hv, h⟩ := h
    refine ⟨⟨some _, rfl⟩, ⟨_, cu2⟩, ?_⟩
    refine rX12_isLayer hv ?_
    refine And.intro (fun hc4 => ?_) (fun hc4 => ?_)
    · replace h := q_ifp (hc4) h
      exact ps_weak (pjX12_why_25 h hk) ⟨rfl, rfl, trivial⟩
    · replace h := q_ifn (hc4) h
      replace h := q_be h
      obtain ⟨u10, hv, h⟩ := h
      replace hv := q_ob_e hv
      obtain ⟨_, cu10⟩ := hv
      replace h := q_be h
      obtain ⟨v11, hv, h⟩ := h
      refine ⟨⟨some _, rfl⟩, ⟨_, cu10⟩, ?_⟩
      refine rX12_is hv ?_
      refine And.intro (fun hc12 => ?_) (fun hc12 => ?_)
      · replace h := q_ifp (hc12) h
        exact ps_weak (pjX12_why_25 h hk) ⟨rfl, rfl, trivial⟩
      · replace h := q_ifn (hc12) h
        exact ps_weak (pjX12_why_21 h hk) trivial
noncomputable def bX12_begin_2 (x0 : Nat) (x1 : Int32) (x2 : Int32) (g : ps_G) : Option ((Int32 × ps_G) ⊕ (ps_G)) := if (576 : Int32) ≤ x2 then (some (.inr g)) else (Option.bind (q_fR 12 35 g x0) fun v3 => Option.bind (v3) fun a4 => Option.bind (q_ob 12 g x0) fun u5 => Option.bind (fX12_get g x0 x1 ((17 : Int32) + x2)) fun v6 => Option.bind (q_wI g a4 x2 v6) fun g7 => some (.inl (x2 + (1 : Int32), g7)))
theorem pbX12_begin_2 {d : Nat} {Q : ps_Rs → ps_G → Prop}  {x0 : Nat} {x1 : Int32} {x2 : Int32} {g : ps_G} {x : (Int32 × ps_G) ⊕ (ps_G)} (h : bX12_begin_2 x0 x1 x2 g = some x) (hh : ∀ s' : Int32 × ps_G, x = .inl s' → ps_At mX12_begin (d + 1) 2 [(0, .ref x0), (1, .int x1), (2, .int s'.1)] [] s'.2 Q) (he : ∀ r' : ps_G, x = .inr r' → ps_At mX12_begin (d + 1) 30 [] [] r' Q) : ps_At mX12_begin (d + 1) 2 [(0, .ref x0), (1, .int x1), (2, .int x2)] [] g Q := by
  unfold bX12_begin_2 at h
  refine sX12_begin_2 ?_
  refine And.intro (fun hc1 => ?_) (fun hc1 => ?_)
  · replace h := q_ifp (hc1) h
    exact ps_weak (he g (Option.some.inj h).symm) trivial
  · replace h := q_ifn (hc1) h
    replace h := q_be h
    obtain ⟨v3, hv, h⟩ := h
    replace hv := q_fR_e hv
    obtain ⟨_, cv3, dv3⟩ := hv
    replace h := q_be h
    obtain ⟨a4, ea4, h⟩ := h
    subst ea4
    replace h := q_be h
    obtain ⟨u5, hv, h⟩ := h
    replace hv := q_ob_e hv
    obtain ⟨_, cu5⟩ := hv
    replace h := q_be h
    obtain ⟨v6, hv, h⟩ := h
    refine ⟨⟨some _, rfl⟩, _, _, cv3, dv3, ⟨some _, rfl⟩, ⟨_, cu5⟩, ?_⟩
    refine rX12_get hv ?_
    replace h := q_be h
    obtain ⟨g7, hv, h⟩ := h
    replace hv := q_wI_e hv
    obtain ⟨_, _, cg7, pg7, ig7, yg7⟩ := hv
    refine ⟨_, _, cg7, pg7, ig7, _, yg7, by decide, ?_⟩
    exact ps_weak (hh (x2 + (1 : Int32), g7) (Option.some.inj h).symm) ⟨rfl, rfl, rfl, trivial⟩
noncomputable def fX12_begin (g : ps_G) (x0 : Nat) (x1 : Int32) : Option (ps_G) := Option.bind (q_lp (fun s => bX12_begin_2 x0 x1 s.1 s.2) ((0 : Int32), g)) fun s10 => some s10
theorem rX12_begin {d : Nat} {Q : ps_Rs → ps_G → Prop} {g : ps_G} {x0 : Nat} {x1 : Int32} {r : ps_G} (h : fX12_begin g x0 x1 = some r) (hk : Q (.inl none) r) : ps_Ok mX12_begin (d + 1) [.ref x0, .int x1] g Q := by
  unfold fX12_begin at h
  refine sX12_begin_0 ?_
  refine ⟨by decide, ?_⟩
  replace h := q_be h
  obtain ⟨s10, hl, h⟩ := h
  refine ps_weak (q_lp_ok hl (fun s => ps_At mX12_begin (d + 1) 2 [(0, .ref x0), (1, .int x1), (2, .int s.1)] [] s.2 Q) (fun r => ps_At mX12_begin (d + 1) 30 [] [] r Q) (fun s x hb hh he => pbX12_begin_2 hb hh he) ?_) ⟨rfl, rfl, rfl, trivial⟩
  refine (?_ : ps_At mX12_begin (d + 1) 30 [] [] s10 Q)
  refine sX12_begin_30 ?_
  cases h
  exact ⟨rfl, rfl, hk⟩
noncomputable def jX12_chosenAt_24 (g : ps_G) (k0 : Int32) : Option (Int32) := some k0
theorem pjX12_chosenAt_24 {d : Nat} {Q : ps_Rs → ps_G → Prop} {g : ps_G} {k0 : Int32} {r : Int32} (h : jX12_chosenAt_24 g k0 = some r) (hk : Q (.inl (some (.int r))) g) : ps_At mX12_chosenAt (d + 1) 24 [] [.int k0] g Q := by
  unfold jX12_chosenAt_24 at h
  refine sX12_chosenAt_24 ?_
  cases h
  exact ⟨rfl, hk⟩
noncomputable def fX12_chosenAt (g : ps_G) (x0 : Nat) (x1 : Int32) (x2 : Int32) : Option (Int32) := Option.bind (q_ob 12 g x0) fun u1 => Option.bind (fX12_isPlace g x0 x1 x2) fun v2 => if v2 = 0 then (jX12_chosenAt_24 g (0 : Int32)) else (Option.bind (q_fR 12 31 g x0) fun v5 => Option.bind (v5) fun a6 => Option.bind (q_ob 12 g x0) fun u7 => Option.bind (fX12_at g x0 x1 x2) fun v8 => Option.bind (q_aI g a6 v8) fun v9 => jX12_chosenAt_24 g v9)
theorem rX12_chosenAt {d : Nat} {Q : ps_Rs → ps_G → Prop} {g : ps_G} {x0 : Nat} {x1 : Int32} {x2 : Int32} {r : Int32} (h : fX12_chosenAt g x0 x1 x2 = some r) (hk : Q (.inl (some (.int r))) g) : ps_Ok mX12_chosenAt (d + 1) [.ref x0, .int x1, .int x2] g Q := by
  unfold fX12_chosenAt at h
  refine sX12_chosenAt_0 ?_
  replace h := q_be h
  obtain ⟨u1, hv, h⟩ := h
  replace hv := q_ob_e hv
  obtain ⟨_, cu1⟩ := hv
  replace h := q_be h
  obtain ⟨v2, hv, h⟩ := h
  refine ⟨⟨some _, rfl⟩, ⟨_, cu1⟩, ?_⟩
  refine rX12_isPlace hv ?_
  refine And.intro (fun hc3 => ?_) (fun hc3 => ?_)
  · replace h := q_ifp (hc3) h
    refine sX12_chosenAt_23 ?_
    exact ps_weak (pjX12_chosenAt_24 h hk) trivial
  · replace h := q_ifn (hc3) h
    replace h := q_be h
    obtain ⟨v5, hv, h⟩ := h
    replace hv := q_fR_e hv
    obtain ⟨_, cv5, dv5⟩ := hv
    replace h := q_be h
    obtain ⟨a6, ea6, h⟩ := h
    subst ea6
    replace h := q_be h
    obtain ⟨u7, hv, h⟩ := h
    replace hv := q_ob_e hv
    obtain ⟨_, cu7⟩ := hv
    replace h := q_be h
    obtain ⟨v8, hv, h⟩ := h
    refine ⟨⟨some _, rfl⟩, _, _, cv5, dv5, ⟨some _, rfl⟩, ⟨_, cu7⟩, ?_⟩
    refine rX12_at hv ?_
    replace h := q_be h
    obtain ⟨v9, hv, h⟩ := h
    replace hv := q_aI_e hv
    obtain ⟨_, _, cv9, iv9, yv9⟩ := hv
    refine ⟨_, _, cv9, iv9, _, yv9, ?_⟩
    exact ps_weak (pjX12_chosenAt_24 h hk) trivial
noncomputable def fX12_shiftedChoice (g : ps_G) (x0 : Nat) (x1 : Int32) (x2 : Int32) (x3 : Int32) : Option (Int32) := Option.bind (q_ob 12 g x0) fun u1 => Option.bind (fX12_get g x0 x1 (8 : Int32)) fun v2 => Option.bind (q_ob 12 g x0) fun u3 => Option.bind (fX12_get g x0 x1 (9 : Int32)) fun v4 => Option.bind (q_ob 12 g x0) fun u5 => Option.bind (fX12_chosenAt g x0 (x2 + v2) (x3 + v4)) fun v6 => some v6
theorem rX12_shiftedChoice {d : Nat} {Q : ps_Rs → ps_G → Prop} {g : ps_G} {x0 : Nat} {x1 : Int32} {x2 : Int32} {x3 : Int32} {r : Int32} (h : fX12_shiftedChoice g x0 x1 x2 x3 = some r) (hk : Q (.inl (some (.int r))) g) : ps_Ok mX12_shiftedChoice (d + 2) [.ref x0, .int x1, .int x2, .int x3] g Q := by
  unfold fX12_shiftedChoice at h
  refine sX12_shiftedChoice_0 ?_
  replace h := q_be h
  obtain ⟨u1, hv, h⟩ := h
  replace hv := q_ob_e hv
  obtain ⟨_, cu1⟩ := hv
  replace h := q_be h
  obtain ⟨v2, hv, h⟩ := h
  refine ⟨⟨some _, rfl⟩, ⟨some _, rfl⟩, ⟨_, cu1⟩, ?_⟩
  refine rX12_get hv ?_
  replace h := q_be h
  obtain ⟨u3, hv, h⟩ := h
  replace hv := q_ob_e hv
  obtain ⟨_, cu3⟩ := hv
  replace h := q_be h
  obtain ⟨v4, hv, h⟩ := h
  refine ⟨⟨some _, rfl⟩, ⟨_, cu3⟩, ?_⟩
  refine rX12_get hv ?_
  replace h := q_be h
  obtain ⟨u5, hv, h⟩ := h
  replace hv := q_ob_e hv
  obtain ⟨_, cu5⟩ := hv
  replace h := q_be h
  obtain ⟨v6, hv, h⟩ := h
  refine ⟨⟨_, cu5⟩, ?_⟩
  refine rX12_chosenAt hv ?_
  cases h
  exact ⟨rfl, hk⟩
noncomputable def fX12_putOver (g : ps_G) (x0 : Nat) (x1 : Int32) (x2 : Int32) (x3 : Int32) (x4 : Int32) : Option (ps_G) := Option.bind (q_ob 12 g x0) fun u1 => Option.bind (fX12_get g x0 x1 ((17 : Int32) + x2)) fun v2 => Option.bind (fX12_over g (0 : Int32) v2 x3 (fX12_mul (fX12_alpha x3) x4)) fun v3 => Option.bind (q_ob 12 g x0) fun u4 => Option.bind (fX12_put g x0 x1 ((17 : Int32) + x2) v3) fun v5 => some v5
theorem rX12_putOver {d : Nat} {Q : ps_Rs → ps_G → Prop} {g : ps_G} {x0 : Nat} {x1 : Int32} {x2 : Int32} {x3 : Int32} {x4 : Int32} {r : ps_G} (h : fX12_putOver g x0 x1 x2 x3 x4 = some r) (hk : Q (.inl none) r) : ps_Ok mX12_putOver (d + 4) [.ref x0, .int x1, .int x2, .int x3, .int x4] g Q := by
  unfold fX12_putOver at h
  refine sX12_putOver_0 ?_
  replace h := q_be h
  obtain ⟨u1, hv, h⟩ := h
  replace hv := q_ob_e hv
  obtain ⟨_, cu1⟩ := hv
  replace h := q_be h
  obtain ⟨v2, hv, h⟩ := h
  refine ⟨⟨some _, rfl⟩, ⟨some _, rfl⟩, ⟨_, cu1⟩, ?_⟩
  refine rX12_get hv ?_
  refine rX12_alpha rfl ?_
  refine rX12_mul rfl ?_
  replace h := q_be h
  obtain ⟨v3, hv, h⟩ := h
  refine rX12_over hv ?_
  replace h := q_be h
  obtain ⟨u4, hv, h⟩ := h
  replace hv := q_ob_e hv
  obtain ⟨_, cu4⟩ := hv
  replace h := q_be h
  obtain ⟨v5, hv, h⟩ := h
  refine ⟨⟨_, cu4⟩, ?_⟩
  refine rX12_put hv ?_
  cases h
  exact ⟨rfl, rfl, hk⟩
noncomputable def fX12_erase (g : ps_G) (x0 : Nat) (x1 : Int32) (x2 : Int32) (x3 : Int32) (x4 : Int32) : Option (ps_G) := Option.bind (q_ob 12 g x0) fun u1 => Option.bind (fX12_get g x0 x1 ((17 : Int32) + x2)) fun v2 => Option.bind (q_ob 12 g x0) fun u3 => Option.bind (fX12_put g x0 x1 ((17 : Int32) + x2) ((v2 &&& (16777215 : Int32)) ||| (q_shl (fX12_mul (fX12_alpha v2) ((255 : Int32) - (fX12_mul (fX12_alpha x3) x4))) (24 : Int32)))) fun v4 => some v4
theorem rX12_erase {d : Nat} {Q : ps_Rs → ps_G → Prop} {g : ps_G} {x0 : Nat} {x1 : Int32} {x2 : Int32} {x3 : Int32} {x4 : Int32} {r : ps_G} (h : fX12_erase g x0 x1 x2 x3 x4 = some r) (hk : Q (.inl none) r) : ps_Ok mX12_erase (d + 1) [.ref x0, .int x1, .int x2, .int x3, .int x4] g Q := by
  unfold fX12_erase at h
  refine sX12_erase_0 ?_
  replace h := q_be h
  obtain ⟨u1, hv, h⟩ := h
  replace hv := q_ob_e hv
  obtain ⟨_, cu1⟩ := hv
  replace h := q_be h
  obtain ⟨v2, hv, h⟩ := h
  refine ⟨⟨some _, rfl⟩, ⟨_, cu1⟩, ?_⟩
  refine rX12_get hv ?_
  refine ⟨by decide, ⟨some _, rfl⟩, ?_⟩
  refine rX12_alpha rfl ?_
  refine rX12_alpha rfl ?_
  refine rX12_mul rfl ?_
  refine rX12_mul rfl ?_
  replace h := q_be h
  obtain ⟨u3, hv, h⟩ := h
  replace hv := q_ob_e hv
  obtain ⟨_, cu3⟩ := hv
  replace h := q_be h
  obtain ⟨v4, hv, h⟩ := h
  refine ⟨⟨_, cu3⟩, ?_⟩
  refine rX12_put hv ?_
  cases h
  exact ⟨rfl, rfl, hk⟩
noncomputable def jX12_forgetBox_91_9 (g : ps_G) (x0 : Nat) (x1 : Int32) (x2 : Int32) (x3 : Int32) (x4 : Int32) (x5 : Int32) (x6 : Int32) : Option ((Int32 × ps_G) ⊕ (ps_G)) := some (.inl (x6 + (1 : Int32), g))
theorem pjX12_forgetBox_91_9 {d : Nat} {Q : ps_Rs → ps_G → Prop} {g : ps_G} {x0 : Nat} {x1 : Int32} {x2 : Int32} {x3 : Int32} {x4 : Int32} {x5 : Int32} {x6 : Int32} {x : (Int32 × ps_G) ⊕ (ps_G)} (h : jX12_forgetBox_91_9 g x0 x1 x2 x3 x4 x5 x6 = some x) (hh : ∀ s' : Int32 × ps_G, x = .inl s' → ps_At mX12_forgetBox (d + 4) 9 [(0, .ref x0), (1, .int x1), (2, .int x2), (3, .int x3), (4, .int x4), (5, .int x5), (6, .int s'.1)] [] s'.2 Q) (he : ∀ r' : ps_G, x = .inr r' → ps_At mX12_forgetBox (d + 4) 97 [] [] r' Q) : ps_At mX12_forgetBox (d + 4) 91 [(0, .ref x0), (1, .int x1), (2, .int x2), (3, .int x3), (4, .int x4), (5, .int x5), (6, .int x6)] [] g Q := by
  unfold jX12_forgetBox_91_9 at h
  refine sX12_forgetBox_91 ?_
  refine ⟨by decide, ?_⟩
  exact ps_weak (hh (x6 + (1 : Int32), g) (Option.some.inj h).symm) ⟨rfl, rfl, rfl, rfl, rfl, rfl, rfl, trivial⟩
noncomputable def bX12_forgetBox_9 (x0 : Nat) (x1 : Int32) (x2 : Int32) (x3 : Int32) (x4 : Int32) (x5 : Int32) (x6 : Int32) (g : ps_G) : Option ((Int32 × ps_G) ⊕ (ps_G)) := if (9 : Int32) ≤ x6 then (some (.inr g)) else (Option.bind (q_ob 12 g x0) fun u5 => Option.bind (fX12_across g x0) fun v6 => Option.bind (q_mod x6 v6) fun v7 => Option.bind (q_ob 12 g x0) fun u8 => Option.bind (fX12_across g x0) fun v9 => Option.bind (q_div x6 v9) fun v10 => if ((x3 + x5) < (v7 * (8 : Int32))) ∨ ((((v7 * (8 : Int32)) + (7 : Int32)) < (x1 - x5)) ∨ (((x4 + x5) < (v10 * (8 : Int32))) ∨ (((v10 * (8 : Int32)) + (7 : Int32)) < (x2 - x5)))) then (jX12_forgetBox_91_9 g x0 x1 x2 x3 x4 x5 x6) else (Option.bind (q_fR 12 21 g x0) fun v16 => Option.bind (v16) fun a17 => Option.bind (q_wB g a17 x6 (0 : Int32)) fun g18 => jX12_forgetBox_91_9 g18 x0 x1 x2 x3 x4 x5 x6))
theorem pbX12_forgetBox_9 {d : Nat} {Q : ps_Rs → ps_G → Prop}  {x0 : Nat} {x1 : Int32} {x2 : Int32} {x3 : Int32} {x4 : Int32} {x5 : Int32} {x6 : Int32} {g : ps_G} {x : (Int32 × ps_G) ⊕ (ps_G)} (h : bX12_forgetBox_9 x0 x1 x2 x3 x4 x5 x6 g = some x) (hh : ∀ s' : Int32 × ps_G, x = .inl s' → ps_At mX12_forgetBox (d + 4) 9 [(0, .ref x0), (1, .int x1), (2, .int x2), (3, .int x3), (4, .int x4), (5, .int x5), (6, .int s'.1)] [] s'.2 Q) (he : ∀ r' : ps_G, x = .inr r' → ps_At mX12_forgetBox (d + 4) 97 [] [] r' Q) : ps_At mX12_forgetBox (d + 4) 9 [(0, .ref x0), (1, .int x1), (2, .int x2), (3, .int x3), (4, .int x4), (5, .int x5), (6, .int x6)] [] g Q := by
  unfold bX12_forgetBox_9 at h
  refine sX12_forgetBox_9 ?_
  refine And.intro (fun hc3 => ?_) (fun hc3 => ?_)
  · replace h := q_ifp (hc3) h
    exact ps_weak (he g (Option.some.inj h).symm) trivial
  · replace h := q_ifn (hc3) h
    replace h := q_be h
    obtain ⟨u5, hv, h⟩ := h
    replace hv := q_ob_e hv
    obtain ⟨_, cu5⟩ := hv
    replace h := q_be h
    obtain ⟨v6, hv, h⟩ := h
    refine ⟨⟨some _, rfl⟩, ⟨_, cu5⟩, ?_⟩
    refine rX12_across hv ?_
    replace h := q_be h
    obtain ⟨v7, hv, h⟩ := h
    replace hv := q_mod_e hv
    obtain ⟨zv7, yv7⟩ := hv
    replace h := q_be h
    obtain ⟨u8, hv, h⟩ := h
    replace hv := q_ob_e hv
    obtain ⟨_, cu8⟩ := hv
    replace h := q_be h
    obtain ⟨v9, hv, h⟩ := h
    refine ⟨zv7, _, yv7, by decide, ⟨some _, rfl⟩, ⟨_, cu8⟩, ?_⟩
    refine rX12_across hv ?_
    replace h := q_be h
    obtain ⟨v10, hv, h⟩ := h
    replace hv := q_div_e hv
    obtain ⟨zv10, yv10⟩ := hv
    have kT19 : (jX12_forgetBox_91_9 g x0 x1 x2 x3 x4 x5 x6) = some x → ps_At mX12_forgetBox (d + 4) 91 [(0, .ref x0), (1, .int x1), (2, .int x2), (3, .int x3), (4, .int x4), (5, .int x5), (6, .int x6)] [] g Q := fun h => by
      exact ps_weak (pjX12_forgetBox_91_9 h hh he) ⟨rfl, rfl, rfl, rfl, rfl, rfl, rfl, trivial⟩
    refine ⟨zv10, _, yv10, by decide, ?_⟩
    refine And.intro (fun hc11 => ?_) (fun hc11 => ?_)
    · exact ps_weak (kT19 (q_ifp (Or.inl hc11) h)) ⟨rfl, rfl, rfl, rfl, rfl, rfl, rfl, trivial⟩
    · refine And.intro (fun hc12 => ?_) (fun hc12 => ?_)
      · exact ps_weak (kT19 (q_ifp (Or.inr (Or.inl hc12)) h)) ⟨rfl, rfl, rfl, rfl, rfl, rfl, rfl, trivial⟩
      · refine And.intro (fun hc13 => ?_) (fun hc13 => ?_)
        · exact ps_weak (kT19 (q_ifp (Or.inr (Or.inr (Or.inl hc13))) h)) ⟨rfl, rfl, rfl, rfl, rfl, rfl, rfl, trivial⟩
        · refine And.intro (fun hc14 => ?_) (fun hc14 => ?_)
          · exact ps_weak (kT19 (q_ifp (Or.inr (Or.inr (Or.inr (hc14)))) h)) ⟨rfl, rfl, rfl, rfl, rfl, rfl, rfl, trivial⟩
          · replace h := q_ifn (not_or.mpr ⟨hc11, not_or.mpr ⟨hc12, not_or.mpr ⟨hc13, hc14⟩⟩⟩) h
            replace h := q_be h
            obtain ⟨v16, hv, h⟩ := h
            replace hv := q_fR_e hv
            obtain ⟨_, cv16, dv16⟩ := hv
            replace h := q_be h
            obtain ⟨a17, ea17, h⟩ := h
            subst ea17
            replace h := q_be h
            obtain ⟨g18, hv, h⟩ := h
            replace hv := q_wB_e hv
            obtain ⟨_, _, cg18, ig18, yg18⟩ := hv
            refine ⟨⟨some _, rfl⟩, _, _, cv16, dv16, _, _, cg18, ig18, _, yg18, ?_⟩
            exact ps_weak (pjX12_forgetBox_91_9 h hh he) ⟨rfl, rfl, rfl, rfl, rfl, rfl, rfl, trivial⟩
noncomputable def fX12_forgetBox (g : ps_G) (x0 : Nat) (x1 : Int32) (x2 : Int32) (x3 : Int32) (x4 : Int32) : Option (ps_G) := Option.bind (q_ob 12 g x0) fun u1 => Option.bind (fX12_reach g x0) fun v2 => Option.bind (q_lp (fun s => bX12_forgetBox_9 x0 x1 x2 x3 x4 v2 s.1 s.2) ((0 : Int32), g)) fun s23 => some s23
theorem rX12_forgetBox {d : Nat} {Q : ps_Rs → ps_G → Prop} {g : ps_G} {x0 : Nat} {x1 : Int32} {x2 : Int32} {x3 : Int32} {x4 : Int32} {r : ps_G} (h : fX12_forgetBox g x0 x1 x2 x3 x4 = some r) (hk : Q (.inl none) r) : ps_Ok mX12_forgetBox (d + 4) [.ref x0, .int x1, .int x2, .int x3, .int x4] g Q := by
  unfold fX12_forgetBox at h
  refine sX12_forgetBox_0 ?_
  replace h := q_be h
  obtain ⟨u1, hv, h⟩ := h
  replace hv := q_ob_e hv
  obtain ⟨_, cu1⟩ := hv
  replace h := q_be h
  obtain ⟨v2, hv, h⟩ := h
  refine ⟨⟨some _, rfl⟩, ⟨_, cu1⟩, ?_⟩
  refine rX12_reach hv ?_
  refine ⟨by decide, by decide, ?_⟩
  replace h := q_be h
  obtain ⟨s23, hl, h⟩ := h
  refine ps_weak (q_lp_ok hl (fun s => ps_At mX12_forgetBox (d + 4) 9 [(0, .ref x0), (1, .int x1), (2, .int x2), (3, .int x3), (4, .int x4), (5, .int v2), (6, .int s.1)] [] s.2 Q) (fun r => ps_At mX12_forgetBox (d + 4) 97 [] [] r Q) (fun s x hb hh he => pbX12_forgetBox_9 hb hh he) ?_) ⟨rfl, rfl, rfl, rfl, rfl, rfl, rfl, trivial⟩
  refine (?_ : ps_At mX12_forgetBox (d + 4) 97 [] [] s23 Q)
  refine sX12_forgetBox_97 ?_
  cases h
  exact ⟨rfl, rfl, hk⟩
noncomputable def bX12_changed_30 (g : ps_G) (x0 : Nat) (x1 : Int32) (x7 : Int32) (x2 : Int32) (x3 : Int32) (x4 : Int32) (x5 : Int32) (x6 : Int32) (x8 : Int32) : Option ((Int32 × Int32 × Int32 × Int32 × Int32 × Int32) ⊕ (Int32 × Int32 × Int32 × Int32 × Int32)) := Option.bind (q_fI 12 13 g x0) fun v3 => if v3 ≤ x8 then (some (.inr (x2, x3, x4, x5, x6))) else (Option.bind (q_ob 12 g x0) fun u6 => Option.bind (fX12_at g x0 x8 x7) fun v7 => Option.bind (q_ob 12 g x0) fun u8 => Option.bind (fX12_get g x0 x1 ((17 : Int32) + v7)) fun v9 => Option.bind (q_fR 12 35 g x0) fun v10 => Option.bind (v10) fun a11 => Option.bind (q_ob 12 g x0) fun u12 => Option.bind (fX12_at g x0 x8 x7) fun v13 => Option.bind (q_aI g a11 v13) fun v14 => some (.inl ((if ¬ v9 = v14 then x2 + (1 : Int32) else x2), (if ¬ v9 = v14 then (if x3 ≤ x8 then x3 else x8) else x3), (if ¬ v9 = v14 then (if x4 ≤ x7 then x4 else x7) else x4), (if ¬ v9 = v14 then (if x8 ≤ x5 then x5 else x8) else x5), (if ¬ v9 = v14 then (if x7 ≤ x6 then x6 else x7) else x6), x8 + (1 : Int32))))
theorem pbX12_changed_30 {d : Nat} {Q : ps_Rs → ps_G → Prop} {g : ps_G} {x0 : Nat} {x1 : Int32} {x7 : Int32} {x2 : Int32} {x3 : Int32} {x4 : Int32} {x5 : Int32} {x6 : Int32} {x8 : Int32} {x : (Int32 × Int32 × Int32 × Int32 × Int32 × Int32) ⊕ (Int32 × Int32 × Int32 × Int32 × Int32)} (h : bX12_changed_30 g x0 x1 x7 x2 x3 x4 x5 x6 x8 = some x) (hh : ∀ s' : Int32 × Int32 × Int32 × Int32 × Int32 × Int32, x = .inl s' → ps_At mX12_changed (d + 5) 30 [(0, .ref x0), (1, .int x1), (2, .int s'.1), (3, .int s'.2.1), (4, .int s'.2.2.1), (5, .int s'.2.2.2.1), (6, .int s'.2.2.2.2.1), (7, .int x7), (8, .int s'.2.2.2.2.2)] [] g Q) (he : ∀ r' : Int32 × Int32 × Int32 × Int32 × Int32, x = .inr r' → ps_At mX12_changed (d + 5) 144 [(0, .ref x0), (1, .int x1), (2, .int r'.1), (3, .int r'.2.1), (4, .int r'.2.2.1), (5, .int r'.2.2.2.1), (6, .int r'.2.2.2.2), (7, .int x7)] [] g Q) : ps_At mX12_changed (d + 5) 30 [(0, .ref x0), (1, .int x1), (2, .int x2), (3, .int x3), (4, .int x4), (5, .int x5), (6, .int x6), (7, .int x7), (8, .int x8)] [] g Q := by
  unfold bX12_changed_30 at h
  refine sX12_changed_30 ?_
  replace h := q_be h
  obtain ⟨v3, hv, h⟩ := h
  replace hv := q_fI_e hv
  obtain ⟨_, cv3, dv3⟩ := hv
  refine ⟨⟨some _, rfl⟩, _, _, cv3, dv3, ?_⟩
  refine And.intro (fun hc4 => ?_) (fun hc4 => ?_)
  · replace h := q_ifp (hc4) h
    exact ps_weak (he (x2, x3, x4, x5, x6) (Option.some.inj h).symm) ⟨rfl, rfl, rfl, rfl, rfl, rfl, rfl, rfl, trivial⟩
  · replace h := q_ifn (hc4) h
    replace h := q_be h
    obtain ⟨u6, hv, h⟩ := h
    replace hv := q_ob_e hv
    obtain ⟨_, cu6⟩ := hv
    replace h := q_be h
    obtain ⟨v7, hv, h⟩ := h
    refine ⟨⟨some _, rfl⟩, ⟨some _, rfl⟩, ⟨_, cu6⟩, ?_⟩
    refine rX12_at hv ?_
    replace h := q_be h
    obtain ⟨u8, hv, h⟩ := h
    replace hv := q_ob_e hv
    obtain ⟨_, cu8⟩ := hv
    replace h := q_be h
    obtain ⟨v9, hv, h⟩ := h
    refine ⟨⟨_, cu8⟩, ?_⟩
    refine rX12_get hv ?_
    replace h := q_be h
    obtain ⟨v10, hv, h⟩ := h
    replace hv := q_fR_e hv
    obtain ⟨_, cv10, dv10⟩ := hv
    replace h := q_be h
    obtain ⟨a11, ea11, h⟩ := h
    subst ea11
    replace h := q_be h
    obtain ⟨u12, hv, h⟩ := h
    replace hv := q_ob_e hv
    obtain ⟨_, cu12⟩ := hv
    replace h := q_be h
    obtain ⟨v13, hv, h⟩ := h
    refine ⟨⟨some _, rfl⟩, _, _, cv10, dv10, ⟨some _, rfl⟩, ⟨_, cu12⟩, ?_⟩
    refine rX12_at hv ?_
    replace h := q_be h
    obtain ⟨v14, hv, h⟩ := h
    replace hv := q_aI_e hv
    obtain ⟨_, _, cv14, iv14, yv14⟩ := hv
    have kJ21 : ∀ w16 : Int32, w16 = (if ¬ v9 = v14 then x2 + (1 : Int32) else x2) → ∀ w17 : Int32, w17 = (if ¬ v9 = v14 then (if x3 ≤ x8 then x3 else x8) else x3) → ∀ w18 : Int32, w18 = (if ¬ v9 = v14 then (if x4 ≤ x7 then x4 else x7) else x4) → ∀ w19 : Int32, w19 = (if ¬ v9 = v14 then (if x8 ≤ x5 then x5 else x8) else x5) → ∀ w20 : Int32, w20 = (if ¬ v9 = v14 then (if x7 ≤ x6 then x6 else x7) else x6) → ps_At mX12_changed (d + 5) 138 [(0, .ref x0), (1, .int x1), (2, .int w16), (3, .int w17), (4, .int w18), (5, .int w19), (6, .int w20), (7, .int x7), (8, .int x8)] [] g Q := by
      rintro _ rfl _ rfl _ rfl _ rfl _ rfl
      refine sX12_changed_138 ?_
      refine ⟨by decide, ?_⟩
      exact ps_weak (hh ((if ¬ v9 = v14 then x2 + (1 : Int32) else x2), (if ¬ v9 = v14 then (if x3 ≤ x8 then x3 else x8) else x3), (if ¬ v9 = v14 then (if x4 ≤ x7 then x4 else x7) else x4), (if ¬ v9 = v14 then (if x8 ≤ x5 then x5 else x8) else x5), (if ¬ v9 = v14 then (if x7 ≤ x6 then x6 else x7) else x6), x8 + (1 : Int32)) (Option.some.inj h).symm) ⟨rfl, rfl, rfl, rfl, rfl, rfl, rfl, rfl, rfl, trivial⟩
    refine ⟨_, _, cv14, iv14, _, yv14, ?_⟩
    refine And.intro (fun hc15 => ?_) (fun hc15 => ?_)
    · refine sX12_changed_74 ?_
      have kJ24 : ∀ w23 : Int32, w23 = (if x3 ≤ x8 then x3 else x8) → ps_At mX12_changed (d + 5) 89 [(0, .ref x0), (1, .int x1), (2, .int (x2 + (1 : Int32))), (4, .int x4), (5, .int x5), (6, .int x6), (7, .int x7), (8, .int x8)] [.int w23] g Q := by
        rintro _ rfl
        refine sX12_changed_89 ?_
        have kJ27 : ∀ w26 : Int32, w26 = (if x4 ≤ x7 then x4 else x7) → ps_At mX12_changed (d + 5) 104 [(0, .ref x0), (1, .int x1), (2, .int (x2 + (1 : Int32))), (3, .int (if x3 ≤ x8 then x3 else x8)), (5, .int x5), (6, .int x6), (7, .int x7), (8, .int x8)] [.int w26] g Q := by
          rintro _ rfl
          refine sX12_changed_104 ?_
          have kJ30 : ∀ w29 : Int32, w29 = (if x8 ≤ x5 then x5 else x8) → ps_At mX12_changed (d + 5) 120 [(0, .ref x0), (1, .int x1), (2, .int (x2 + (1 : Int32))), (3, .int (if x3 ≤ x8 then x3 else x8)), (4, .int (if x4 ≤ x7 then x4 else x7)), (6, .int x6), (7, .int x7), (8, .int x8)] [.int w29] g Q := by
            rintro _ rfl
            refine sX12_changed_120 ?_
            have kJ33 : ∀ w32 : Int32, w32 = (if x7 ≤ x6 then x6 else x7) → ps_At mX12_changed (d + 5) 136 [(0, .ref x0), (1, .int x1), (2, .int (x2 + (1 : Int32))), (3, .int (if x3 ≤ x8 then x3 else x8)), (4, .int (if x4 ≤ x7 then x4 else x7)), (5, .int (if x8 ≤ x5 then x5 else x8)), (7, .int x7), (8, .int x8)] [.int w32] g Q := by
              rintro _ rfl
              refine sX12_changed_136 ?_
              refine ⟨by decide, ?_⟩
              exact ps_weak (kJ21 _ (if_pos (hc15)).symm _ (if_pos (hc15)).symm _ (if_pos (hc15)).symm _ (if_pos (hc15)).symm _ (if_pos (hc15)).symm) ⟨rfl, rfl, rfl, rfl, rfl, rfl, rfl, rfl, rfl, trivial⟩
            refine ⟨by decide, ?_⟩
            refine And.intro (fun hc31 => ?_) (fun hc31 => ?_)
            · refine sX12_changed_134 ?_
              exact ps_weak (kJ33 _ (if_pos (hc31)).symm) ⟨rfl, rfl, rfl, rfl, rfl, rfl, rfl, rfl, trivial⟩
            · exact ps_weak (kJ33 _ (if_neg (hc31)).symm) ⟨rfl, rfl, rfl, rfl, rfl, rfl, rfl, rfl, trivial⟩
          refine ⟨by decide, ?_⟩
          refine And.intro (fun hc28 => ?_) (fun hc28 => ?_)
          · refine sX12_changed_118 ?_
            exact ps_weak (kJ30 _ (if_pos (hc28)).symm) ⟨rfl, rfl, rfl, rfl, rfl, rfl, rfl, rfl, trivial⟩
          · exact ps_weak (kJ30 _ (if_neg (hc28)).symm) ⟨rfl, rfl, rfl, rfl, rfl, rfl, rfl, rfl, trivial⟩
        refine ⟨by decide, ?_⟩
        refine And.intro (fun hc25 => ?_) (fun hc25 => ?_)
        · refine sX12_changed_102 ?_
          exact ps_weak (kJ27 _ (if_pos (hc25)).symm) ⟨rfl, rfl, rfl, rfl, rfl, rfl, rfl, rfl, trivial⟩
        · exact ps_weak (kJ27 _ (if_neg (hc25)).symm) ⟨rfl, rfl, rfl, rfl, rfl, rfl, rfl, rfl, trivial⟩
      refine ⟨by decide, ?_⟩
      refine And.intro (fun hc22 => ?_) (fun hc22 => ?_)
      · refine sX12_changed_88 ?_
        exact ps_weak (kJ24 _ (if_pos (hc22)).symm) ⟨rfl, rfl, rfl, rfl, rfl, rfl, rfl, rfl, trivial⟩
      · exact ps_weak (kJ24 _ (if_neg (hc22)).symm) ⟨rfl, rfl, rfl, rfl, rfl, rfl, rfl, rfl, trivial⟩
    · exact ps_weak (kJ21 _ (if_neg (hc15)).symm _ (if_neg (hc15)).symm _ (if_neg (hc15)).symm _ (if_neg (hc15)).symm _ (if_neg (hc15)).symm) ⟨rfl, rfl, rfl, rfl, rfl, rfl, rfl, rfl, rfl, trivial⟩
noncomputable def bX12_changed_18 (g : ps_G) (x0 : Nat) (x1 : Int32) (x2 : Int32) (x3 : Int32) (x4 : Int32) (x5 : Int32) (x6 : Int32) (x7 : Int32) : Option ((Int32 × Int32 × Int32 × Int32 × Int32 × Int32) ⊕ (Int32 × Int32 × Int32 × Int32 × Int32)) := Option.bind (q_fI 12 14 g x0) fun v1 => if v1 ≤ x7 then (some (.inr (x2, x3, x4, x5, x6))) else (Option.bind (q_lp (fun s => bX12_changed_30 g x0 x1 x7 s.1 s.2.1 s.2.2.1 s.2.2.2.1 s.2.2.2.2.1 s.2.2.2.2.2) (x2, x3, x4, x5, x6, (0 : Int32))) fun s36 => some (.inl (s36.1, s36.2.1, s36.2.2.1, s36.2.2.2.1, s36.2.2.2.2, x7 + (1 : Int32))))
theorem pbX12_changed_18 {d : Nat} {Q : ps_Rs → ps_G → Prop} {g : ps_G} {x0 : Nat} {x1 : Int32} {x2 : Int32} {x3 : Int32} {x4 : Int32} {x5 : Int32} {x6 : Int32} {x7 : Int32} {x : (Int32 × Int32 × Int32 × Int32 × Int32 × Int32) ⊕ (Int32 × Int32 × Int32 × Int32 × Int32)} (h : bX12_changed_18 g x0 x1 x2 x3 x4 x5 x6 x7 = some x) (hh : ∀ s' : Int32 × Int32 × Int32 × Int32 × Int32 × Int32, x = .inl s' → ps_At mX12_changed (d + 5) 18 [(0, .ref x0), (1, .int x1), (2, .int s'.1), (3, .int s'.2.1), (4, .int s'.2.2.1), (5, .int s'.2.2.2.1), (6, .int s'.2.2.2.2.1), (7, .int s'.2.2.2.2.2)] [] g Q) (he : ∀ r' : Int32 × Int32 × Int32 × Int32 × Int32, x = .inr r' → ps_At mX12_changed (d + 5) 150 [(0, .ref x0), (1, .int x1), (2, .int r'.1), (3, .int r'.2.1), (4, .int r'.2.2.1), (5, .int r'.2.2.2.1), (6, .int r'.2.2.2.2)] [] g Q) : ps_At mX12_changed (d + 5) 18 [(0, .ref x0), (1, .int x1), (2, .int x2), (3, .int x3), (4, .int x4), (5, .int x5), (6, .int x6), (7, .int x7)] [] g Q := by
  unfold bX12_changed_18 at h
  refine sX12_changed_18 ?_
  replace h := q_be h
  obtain ⟨v1, hv, h⟩ := h
  replace hv := q_fI_e hv
  obtain ⟨_, cv1, dv1⟩ := hv
  refine ⟨⟨some _, rfl⟩, _, _, cv1, dv1, ?_⟩
  refine And.intro (fun hc2 => ?_) (fun hc2 => ?_)
  · replace h := q_ifp (hc2) h
    exact ps_weak (he (x2, x3, x4, x5, x6) (Option.some.inj h).symm) ⟨rfl, rfl, rfl, rfl, rfl, rfl, rfl, trivial⟩
  · replace h := q_ifn (hc2) h
    refine ⟨by decide, ?_⟩
    replace h := q_be h
    obtain ⟨s36, hl, h⟩ := h
    refine ps_weak (q_lp_ok hl (fun s => ps_At mX12_changed (d + 5) 30 [(0, .ref x0), (1, .int x1), (2, .int s.1), (3, .int s.2.1), (4, .int s.2.2.1), (5, .int s.2.2.2.1), (6, .int s.2.2.2.2.1), (7, .int x7), (8, .int s.2.2.2.2.2)] [] g Q) (fun r => ps_At mX12_changed (d + 5) 144 [(0, .ref x0), (1, .int x1), (2, .int r.1), (3, .int r.2.1), (4, .int r.2.2.1), (5, .int r.2.2.2.1), (6, .int r.2.2.2.2), (7, .int x7)] [] g Q) (fun s x hb hh he => pbX12_changed_30 hb hh he) ?_) ⟨rfl, rfl, rfl, rfl, rfl, rfl, rfl, rfl, rfl, trivial⟩
    refine (?_ : ps_At mX12_changed (d + 5) 144 [(0, .ref x0), (1, .int x1), (2, .int s36.1), (3, .int s36.2.1), (4, .int s36.2.2.1), (5, .int s36.2.2.2.1), (6, .int s36.2.2.2.2), (7, .int x7)] [] g Q)
    refine sX12_changed_144 ?_
    refine ⟨by decide, ?_⟩
    exact ps_weak (hh (s36.1, s36.2.1, s36.2.2.1, s36.2.2.2.1, s36.2.2.2.2, x7 + (1 : Int32)) (Option.some.inj h).symm) ⟨rfl, rfl, rfl, rfl, rfl, rfl, rfl, rfl, trivial⟩
noncomputable def jX12_changed_201 (g : ps_G) (x2 : Int32) : Option (Int32 × ps_G) := some (x2, g)
theorem pjX12_changed_201 {d : Nat} {Q : ps_Rs → ps_G → Prop} {g : ps_G} {x2 : Int32} {r : Int32 × ps_G} (h : jX12_changed_201 g x2 = some r) (hk : Q (.inl (some (.int r.1))) r.2) : ps_At mX12_changed (d + 5) 201 [(2, .int x2)] [] g Q := by
  unfold jX12_changed_201 at h
  refine sX12_changed_201 ?_
  cases h
  exact ⟨rfl, hk⟩
noncomputable def fX12_changed (g : ps_G) (x0 : Nat) (x1 : Int32) : Option (Int32 × ps_G) := Option.bind (q_lp (fun s => bX12_changed_18 g x0 x1 s.1 s.2.1 s.2.2.1 s.2.2.2.1 s.2.2.2.2.1 s.2.2.2.2.2) ((0 : Int32), (99 : Int32), (99 : Int32), (-1 : Int32), (-1 : Int32), (0 : Int32))) fun s39 => Option.bind (q_ob 12 g x0) fun u40 => Option.bind (fX12_edited g x0) fun v41 => if s39.1 ≤ 0 then (jX12_changed_201 v41 s39.1) else (Option.bind (q_ob 12 v41 x0) fun u44 => Option.bind (fX12_get v41 x0 x1 (8 : Int32)) fun v45 => Option.bind (q_ob 12 v41 x0) fun u46 => Option.bind (fX12_get v41 x0 x1 (9 : Int32)) fun v47 => Option.bind (q_ob 12 v41 x0) fun u48 => Option.bind (fX12_get v41 x0 x1 (8 : Int32)) fun v49 => Option.bind (q_ob 12 v41 x0) fun u50 => Option.bind (fX12_get v41 x0 x1 (9 : Int32)) fun v51 => Option.bind (q_ob 12 v41 x0) fun u52 => Option.bind (fX12_forgetBox v41 x0 (s39.2.1 + v45) (s39.2.2.1 + v47) (s39.2.2.2.1 + v49) (s39.2.2.2.2 + v51)) fun v53 => jX12_changed_201 v53 s39.1)
theorem rX12_changed {d : Nat} {Q : ps_Rs → ps_G → Prop} {g : ps_G} {x0 : Nat} {x1 : Int32} {r : Int32 × ps_G} (h : fX12_changed g x0 x1 = some r) (hk : Q (.inl (some (.int r.1))) r.2) : ps_Ok mX12_changed (d + 5) [.ref x0, .int x1] g Q := by
  unfold fX12_changed at h
  refine sX12_changed_0 ?_
  refine ⟨by decide, by decide, by decide, by decide, by decide, by decide, ?_⟩
  replace h := q_be h
  obtain ⟨s39, hl, h⟩ := h
  refine ps_weak (q_lp_ok hl (fun s => ps_At mX12_changed (d + 5) 18 [(0, .ref x0), (1, .int x1), (2, .int s.1), (3, .int s.2.1), (4, .int s.2.2.1), (5, .int s.2.2.2.1), (6, .int s.2.2.2.2.1), (7, .int s.2.2.2.2.2)] [] g Q) (fun r => ps_At mX12_changed (d + 5) 150 [(0, .ref x0), (1, .int x1), (2, .int r.1), (3, .int r.2.1), (4, .int r.2.2.1), (5, .int r.2.2.2.1), (6, .int r.2.2.2.2)] [] g Q) (fun s x hb hh he => pbX12_changed_18 hb hh he) ?_) ⟨rfl, rfl, rfl, rfl, rfl, rfl, rfl, rfl, trivial⟩
  refine (?_ : ps_At mX12_changed (d + 5) 150 [(0, .ref x0), (1, .int x1), (2, .int s39.1), (3, .int s39.2.1), (4, .int s39.2.2.1), (5, .int s39.2.2.2.1), (6, .int s39.2.2.2.2)] [] g Q)
  refine sX12_changed_150 ?_
  replace h := q_be h
  obtain ⟨u40, hv, h⟩ := h
  replace hv := q_ob_e hv
  obtain ⟨_, cu40⟩ := hv
  replace h := q_be h
  obtain ⟨v41, hv, h⟩ := h
  refine ⟨⟨some _, rfl⟩, ⟨_, cu40⟩, ?_⟩
  refine rX12_edited hv ?_
  refine And.intro (fun hc42 => ?_) (fun hc42 => ?_)
  · replace h := q_ifp (hc42) h
    exact ps_weak (pjX12_changed_201 h hk) ⟨rfl, trivial⟩
  · replace h := q_ifn (hc42) h
    replace h := q_be h
    obtain ⟨u44, hv, h⟩ := h
    replace hv := q_ob_e hv
    obtain ⟨_, cu44⟩ := hv
    replace h := q_be h
    obtain ⟨v45, hv, h⟩ := h
    refine ⟨⟨some _, rfl⟩, ⟨some _, rfl⟩, ⟨_, cu44⟩, ?_⟩
    refine rX12_get hv ?_
    replace h := q_be h
    obtain ⟨u46, hv, h⟩ := h
    replace hv := q_ob_e hv
    obtain ⟨_, cu46⟩ := hv
    replace h := q_be h
    obtain ⟨v47, hv, h⟩ := h
    refine ⟨⟨some _, rfl⟩, ⟨_, cu46⟩, ?_⟩
    refine rX12_get hv ?_
    replace h := q_be h
    obtain ⟨u48, hv, h⟩ := h
    replace hv := q_ob_e hv
    obtain ⟨_, cu48⟩ := hv
    replace h := q_be h
    obtain ⟨v49, hv, h⟩ := h
    refine ⟨⟨some _, rfl⟩, ⟨_, cu48⟩, ?_⟩
    refine rX12_get hv ?_
    replace h := q_be h
    obtain ⟨u50, hv, h⟩ := h
    replace hv := q_ob_e hv
    obtain ⟨_, cu50⟩ := hv
    replace h := q_be h
    obtain ⟨v51, hv, h⟩ := h
    refine ⟨⟨some _, rfl⟩, ⟨_, cu50⟩, ?_⟩
    refine rX12_get hv ?_
    replace h := q_be h
    obtain ⟨u52, hv, h⟩ := h
    replace hv := q_ob_e hv
    obtain ⟨_, cu52⟩ := hv
    replace h := q_be h
    obtain ⟨v53, hv, h⟩ := h
    refine ⟨⟨_, cu52⟩, ?_⟩
    refine rX12_forgetBox hv ?_
    exact ps_weak (pjX12_changed_201 h hk) ⟨rfl, trivial⟩
noncomputable def jX12_fill_137_42 (g : ps_G) (x0 : Nat) (x1 : Int32) (x2 : Int32) (x3 : Int32) (x4 : Int32) : Option ((Int32 × ps_G) ⊕ (ps_G)) := some (.inl (x4 + (1 : Int32), g))
theorem pjX12_fill_137_42 {d : Nat} {Q : ps_Rs → ps_G → Prop} {g : ps_G} {x0 : Nat} {x1 : Int32} {x2 : Int32} {x3 : Int32} {x4 : Int32} {x : (Int32 × ps_G) ⊕ (ps_G)} (h : jX12_fill_137_42 g x0 x1 x2 x3 x4 = some x) (hh : ∀ s' : Int32 × ps_G, x = .inl s' → ps_At mX12_fill (d + 6) 42 [(0, .ref x0), (1, .int x1), (2, .int x2), (3, .int x3), (4, .int s'.1)] [] s'.2 Q) (he : ∀ r' : ps_G, x = .inr r' → ps_At mX12_fill (d + 6) 143 [(0, .ref x0), (1, .int x1), (2, .int x2), (3, .int x3)] [] r' Q) : ps_At mX12_fill (d + 6) 137 [(0, .ref x0), (1, .int x1), (2, .int x2), (3, .int x3), (4, .int x4)] [] g Q := by
  unfold jX12_fill_137_42 at h
  refine sX12_fill_137 ?_
  refine ⟨by decide, ?_⟩
  exact ps_weak (hh (x4 + (1 : Int32), g) (Option.some.inj h).symm) ⟨rfl, rfl, rfl, rfl, rfl, trivial⟩
noncomputable def bX12_fill_42 (x0 : Nat) (x1 : Int32) (x2 : Int32) (x3 : Int32) (x4 : Int32) (g : ps_G) : Option ((Int32 × ps_G) ⊕ (ps_G)) := Option.bind (q_fI 12 13 g x0) fun v10 => if v10 ≤ x4 then (some (.inr g)) else (Option.bind (q_ob 12 g x0) fun u13 => Option.bind (fX12_shiftedChoice g x0 x1 x4 x3) fun v14 => Option.bind (q_ob 12 g x0) fun u15 => Option.bind (fX12_at g x0 x4 x3) fun v16 => if ¬ x2 = 0 then (if ¬ x2 = (1 : Int32) then (Option.bind (q_fR 12 35 g x0) fun v22 => Option.bind (v22) fun a23 => Option.bind (q_aI g a23 v16) fun v24 => Option.bind (q_fI 12 34 g x0) fun v25 => Option.bind (fX12_mixed g v24 v25 v14) fun v26 => Option.bind (q_ob 12 g x0) fun u27 => Option.bind (fX12_put g x0 x1 ((17 : Int32) + v16) v26) fun v28 => jX12_fill_137_42 v28 x0 x1 x2 x3 x4) else (Option.bind (q_fI 12 34 g x0) fun v29 => Option.bind (q_ob 12 g x0) fun u30 => Option.bind (fX12_erase g x0 x1 v16 v29 v14) fun v31 => jX12_fill_137_42 v31 x0 x1 x2 x3 x4)) else (Option.bind (q_fI 12 34 g x0) fun v34 => Option.bind (q_ob 12 g x0) fun u35 => Option.bind (fX12_putOver g x0 x1 v16 v34 v14) fun v36 => jX12_fill_137_42 v36 x0 x1 x2 x3 x4))
theorem pbX12_fill_42 {d : Nat} {Q : ps_Rs → ps_G → Prop}  {x0 : Nat} {x1 : Int32} {x2 : Int32} {x3 : Int32} {x4 : Int32} {g : ps_G} {x : (Int32 × ps_G) ⊕ (ps_G)} (h : bX12_fill_42 x0 x1 x2 x3 x4 g = some x) (hh : ∀ s' : Int32 × ps_G, x = .inl s' → ps_At mX12_fill (d + 6) 42 [(0, .ref x0), (1, .int x1), (2, .int x2), (3, .int x3), (4, .int s'.1)] [] s'.2 Q) (he : ∀ r' : ps_G, x = .inr r' → ps_At mX12_fill (d + 6) 143 [(0, .ref x0), (1, .int x1), (2, .int x2), (3, .int x3)] [] r' Q) : ps_At mX12_fill (d + 6) 42 [(0, .ref x0), (1, .int x1), (2, .int x2), (3, .int x3), (4, .int x4)] [] g Q := by
  unfold bX12_fill_42 at h
  refine sX12_fill_42 ?_
  replace h := q_be h
  obtain ⟨v10, hv, h⟩ := h
  replace hv := q_fI_e hv
  obtain ⟨_, cv10, dv10⟩ := hv
  refine ⟨⟨some _, rfl⟩, _, _, cv10, dv10, ?_⟩
  refine And.intro (fun hc11 => ?_) (fun hc11 => ?_)
  · replace h := q_ifp (hc11) h
    exact ps_weak (he g (Option.some.inj h).symm) ⟨rfl, rfl, rfl, rfl, trivial⟩
  · replace h := q_ifn (hc11) h
    replace h := q_be h
    obtain ⟨u13, hv, h⟩ := h
    replace hv := q_ob_e hv
    obtain ⟨_, cu13⟩ := hv
    replace h := q_be h
    obtain ⟨v14, hv, h⟩ := h
    refine ⟨⟨some _, rfl⟩, ⟨_, cu13⟩, ?_⟩
    refine rX12_shiftedChoice hv ?_
    replace h := q_be h
    obtain ⟨u15, hv, h⟩ := h
    replace hv := q_ob_e hv
    obtain ⟨_, cu15⟩ := hv
    replace h := q_be h
    obtain ⟨v16, hv, h⟩ := h
    refine ⟨by decide, ⟨some _, rfl⟩, ⟨_, cu15⟩, ?_⟩
    refine rX12_at hv ?_
    refine ⟨by decide, ?_⟩
    refine And.intro (fun hc17 => ?_) (fun hc17 => ?_)
    · replace h := q_ifp (hc17) h
      refine sX12_fill_90 ?_
      refine And.intro (fun hc20 => ?_) (fun hc20 => ?_)
      · replace h := q_ifp (hc20) h
        refine sX12_fill_111 ?_
        replace h := q_be h
        obtain ⟨v22, hv, h⟩ := h
        replace hv := q_fR_e hv
        obtain ⟨_, cv22, dv22⟩ := hv
        replace h := q_be h
        obtain ⟨a23, ea23, h⟩ := h
        subst ea23
        replace h := q_be h
        obtain ⟨v24, hv, h⟩ := h
        replace hv := q_aI_e hv
        obtain ⟨_, _, cv24, iv24, yv24⟩ := hv
        replace h := q_be h
        obtain ⟨v25, hv, h⟩ := h
        replace hv := q_fI_e hv
        obtain ⟨_, cv25, dv25⟩ := hv
        replace h := q_be h
        obtain ⟨v26, hv, h⟩ := h
        refine ⟨⟨some _, rfl⟩, ⟨some _, rfl⟩, _, _, cv22, dv22, _, _, cv24, iv24, _, yv24, ⟨some _, rfl⟩, _, _, cv25, dv25, ?_⟩
        refine rX12_mixed hv ?_
        replace h := q_be h
        obtain ⟨u27, hv, h⟩ := h
        replace hv := q_ob_e hv
        obtain ⟨_, cu27⟩ := hv
        replace h := q_be h
        obtain ⟨v28, hv, h⟩ := h
        refine ⟨⟨_, cu27⟩, ?_⟩
        refine rX12_put hv ?_
        exact ps_weak (pjX12_fill_137_42 h hh he) ⟨rfl, rfl, rfl, rfl, rfl, trivial⟩
      · replace h := q_ifn (hc20) h
        replace h := q_be h
        obtain ⟨v29, hv, h⟩ := h
        replace hv := q_fI_e hv
        obtain ⟨_, cv29, dv29⟩ := hv
        replace h := q_be h
        obtain ⟨u30, hv, h⟩ := h
        replace hv := q_ob_e hv
        obtain ⟨_, cu30⟩ := hv
        replace h := q_be h
        obtain ⟨v31, hv, h⟩ := h
        refine ⟨⟨some _, rfl⟩, ⟨some _, rfl⟩, _, _, cv29, dv29, ⟨_, cu30⟩, ?_⟩
        refine rX12_erase hv ?_
        exact ps_weak (pjX12_fill_137_42 h hh he) ⟨rfl, rfl, rfl, rfl, rfl, trivial⟩
    · replace h := q_ifn (hc17) h
      replace h := q_be h
      obtain ⟨v34, hv, h⟩ := h
      replace hv := q_fI_e hv
      obtain ⟨_, cv34, dv34⟩ := hv
      replace h := q_be h
      obtain ⟨u35, hv, h⟩ := h
      replace hv := q_ob_e hv
      obtain ⟨_, cu35⟩ := hv
      replace h := q_be h
      obtain ⟨v36, hv, h⟩ := h
      refine ⟨⟨some _, rfl⟩, ⟨some _, rfl⟩, _, _, cv34, dv34, ⟨_, cu35⟩, ?_⟩
      refine rX12_putOver hv ?_
      exact ps_weak (pjX12_fill_137_42 h hh he) ⟨rfl, rfl, rfl, rfl, rfl, trivial⟩
noncomputable def bX12_fill_31 (x0 : Nat) (x1 : Int32) (x2 : Int32) (x3 : Int32) (g : ps_G) : Option ((Int32 × ps_G) ⊕ (ps_G)) := Option.bind (q_fI 12 14 g x0) fun v8 => if v8 ≤ x3 then (some (.inr g)) else (Option.bind (q_lp (fun s => bX12_fill_42 x0 x1 x2 x3 s.1 s.2) ((0 : Int32), g)) fun s41 => some (.inl (x3 + (1 : Int32), s41)))
theorem pbX12_fill_31 {d : Nat} {Q : ps_Rs → ps_G → Prop}  {x0 : Nat} {x1 : Int32} {x2 : Int32} {x3 : Int32} {g : ps_G} {x : (Int32 × ps_G) ⊕ (ps_G)} (h : bX12_fill_31 x0 x1 x2 x3 g = some x) (hh : ∀ s' : Int32 × ps_G, x = .inl s' → ps_At mX12_fill (d + 6) 31 [(0, .ref x0), (1, .int x1), (2, .int x2), (3, .int s'.1)] [] s'.2 Q) (he : ∀ r' : ps_G, x = .inr r' → ps_At mX12_fill (d + 6) 149 [(0, .ref x0), (1, .int x1)] [] r' Q) : ps_At mX12_fill (d + 6) 31 [(0, .ref x0), (1, .int x1), (2, .int x2), (3, .int x3)] [] g Q := by
  unfold bX12_fill_31 at h
  refine sX12_fill_31 ?_
  replace h := q_be h
  obtain ⟨v8, hv, h⟩ := h
  replace hv := q_fI_e hv
  obtain ⟨_, cv8, dv8⟩ := hv
  refine ⟨⟨some _, rfl⟩, _, _, cv8, dv8, ?_⟩
  refine And.intro (fun hc9 => ?_) (fun hc9 => ?_)
  · replace h := q_ifp (hc9) h
    exact ps_weak (he g (Option.some.inj h).symm) ⟨rfl, rfl, trivial⟩
  · replace h := q_ifn (hc9) h
    refine ⟨by decide, ?_⟩
    replace h := q_be h
    obtain ⟨s41, hl, h⟩ := h
    refine ps_weak (q_lp_ok hl (fun s => ps_At mX12_fill (d + 6) 42 [(0, .ref x0), (1, .int x1), (2, .int x2), (3, .int x3), (4, .int s.1)] [] s.2 Q) (fun r => ps_At mX12_fill (d + 6) 143 [(0, .ref x0), (1, .int x1), (2, .int x2), (3, .int x3)] [] r Q) (fun s x hb hh he => pbX12_fill_42 hb hh he) ?_) ⟨rfl, rfl, rfl, rfl, rfl, trivial⟩
    refine (?_ : ps_At mX12_fill (d + 6) 143 [(0, .ref x0), (1, .int x1), (2, .int x2), (3, .int x3)] [] s41 Q)
    refine sX12_fill_143 ?_
    refine ⟨by decide, ?_⟩
    exact ps_weak (hh (x3 + (1 : Int32), s41) (Option.some.inj h).symm) ⟨rfl, rfl, rfl, rfl, trivial⟩
noncomputable def fX12_fill (g : ps_G) (x0 : Nat) (x1 : Int32) (x2 : Int32) : Option (Int32 × ps_G) := Option.bind (q_ob 12 g x0) fun u1 => Option.bind (fX12_why g x0 x1 (fX12_in x2 (0 : Int32) (2 : Int32))) fun v2 => Option.bind (q_sI 12 0 g x0 v2) fun g3 => Option.bind (q_fI 12 0 g3 x0) fun v4 => if v4 ≤ 0 then (Option.bind (q_ob 12 g3 x0) fun u6 => Option.bind (fX12_begin g3 x0 x1) fun v7 => Option.bind (q_lp (fun s => bX12_fill_31 x0 x1 x2 s.1 s.2) ((0 : Int32), v7)) fun s44 => Option.bind (q_ob 12 s44 x0) fun u45 => q_b2 (fX12_changed s44 x0 x1) fun v46 g47 => some (v46, g47)) else (some ((0 : Int32), g3))
theorem rX12_fill {d : Nat} {Q : ps_Rs → ps_G → Prop} {g : ps_G} {x0 : Nat} {x1 : Int32} {x2 : Int32} {r : Int32 × ps_G} (h : fX12_fill g x0 x1 x2 = some r) (hk : Q (.inl (some (.int r.1))) r.2) : ps_Ok mX12_fill (d + 6) [.ref x0, .int x1, .int x2] g Q := by
  unfold fX12_fill at h
  refine sX12_fill_0 ?_
  refine ⟨⟨some _, rfl⟩, ⟨some _, rfl⟩, ?_⟩
  refine rX12_in rfl ?_
  replace h := q_be h
  obtain ⟨u1, hv, h⟩ := h
  replace hv := q_ob_e hv
  obtain ⟨_, cu1⟩ := hv
  replace h := q_be h
  obtain ⟨v2, hv, h⟩ := h
  refine ⟨⟨_, cu1⟩, ?_⟩
  refine rX12_why hv ?_
  replace h := q_be h
  obtain ⟨g3, hv, h⟩ := h
  replace hv := q_sI_e hv
  obtain ⟨_, cg3, dg3, yg3⟩ := hv
  replace h := q_be h
  obtain ⟨v4, hv, h⟩ := h
  replace hv := q_fI_e hv
  obtain ⟨_, cv4, dv4⟩ := hv
  refine ⟨_, cg3, dg3, rfl, rfl, _, yg3, ⟨some _, rfl⟩, _, _, cv4, dv4, ?_⟩
  refine And.intro (fun hc5 => ?_) (fun hc5 => ?_)
  · replace h := q_ifp (hc5) h
    refine sX12_fill_24 ?_
    replace h := q_be h
    obtain ⟨u6, hv, h⟩ := h
    replace hv := q_ob_e hv
    obtain ⟨_, cu6⟩ := hv
    replace h := q_be h
    obtain ⟨v7, hv, h⟩ := h
    refine ⟨⟨some _, rfl⟩, ⟨_, cu6⟩, ?_⟩
    refine rX12_begin hv ?_
    refine ⟨by decide, ?_⟩
    replace h := q_be h
    obtain ⟨s44, hl, h⟩ := h
    refine ps_weak (q_lp_ok hl (fun s => ps_At mX12_fill (d + 6) 31 [(0, .ref x0), (1, .int x1), (2, .int x2), (3, .int s.1)] [] s.2 Q) (fun r => ps_At mX12_fill (d + 6) 149 [(0, .ref x0), (1, .int x1)] [] r Q) (fun s x hb hh he => pbX12_fill_31 hb hh he) ?_) ⟨rfl, rfl, rfl, rfl, trivial⟩
    refine (?_ : ps_At mX12_fill (d + 6) 149 [(0, .ref x0), (1, .int x1)] [] s44 Q)
    refine sX12_fill_149 ?_
    replace h := q_be h
    obtain ⟨u45, hv, h⟩ := h
    replace hv := q_ob_e hv
    obtain ⟨_, cu45⟩ := hv
    replace h := q_b2_e h
    obtain ⟨v46, g47, hv, h⟩ := h
    refine ⟨⟨some _, rfl⟩, ⟨_, cu45⟩, ?_⟩
    refine rX12_changed hv ?_
    cases h
    exact ⟨rfl, hk⟩
  · replace h := q_ifn (hc5) h
    cases h
    exact ⟨rfl, hk⟩
noncomputable def jX12_brush_61 (g : ps_G) (x0 : Nat) (x1 : Int32) (x2 : Int32) (x3 : Int32) (x4 : Int32) (x5 : Int32) (k0 : Nat) (k1 : Int32) : Option (ps_G) := Option.bind (q_sI 12 0 g k0 k1) fun g2 => Option.bind (q_fI 12 0 g2 x0) fun v3 => if v3 ≤ 0 then (Option.bind (q_sI 12 36 g2 x0 x1) fun g5 => Option.bind (q_sI 12 37 g5 x0 x2) fun g6 => Option.bind (q_sI 12 38 g6 x0 x3) fun g7 => Option.bind (q_sI 12 39 g7 x0 x4) fun g8 => Option.bind (q_sI 12 40 g8 x0 x5) fun g9 => some g9) else (some g2)
theorem pjX12_brush_61 {d : Nat} {Q : ps_Rs → ps_G → Prop} {g : ps_G} {x0 : Nat} {x1 : Int32} {x2 : Int32} {x3 : Int32} {x4 : Int32} {x5 : Int32} {k0 : Nat} {k1 : Int32} {r : ps_G} (h : jX12_brush_61 g x0 x1 x2 x3 x4 x5 k0 k1 = some r) (hk : Q (.inl none) r) : ps_At mX12_brush (d + 1) 61 [(0, .ref x0), (1, .int x1), (2, .int x2), (3, .int x3), (4, .int x4), (5, .int x5)] [.int k1, .ref k0] g Q := by
  unfold jX12_brush_61 at h
  refine sX12_brush_61 ?_
  replace h := q_be h
  obtain ⟨g2, hv, h⟩ := h
  replace hv := q_sI_e hv
  obtain ⟨_, cg2, dg2, yg2⟩ := hv
  replace h := q_be h
  obtain ⟨v3, hv, h⟩ := h
  replace hv := q_fI_e hv
  obtain ⟨_, cv3, dv3⟩ := hv
  refine ⟨_, cg2, dg2, rfl, rfl, _, yg2, ⟨some _, rfl⟩, _, _, cv3, dv3, ?_⟩
  refine And.intro (fun hc4 => ?_) (fun hc4 => ?_)
  · replace h := q_ifp (hc4) h
    refine sX12_brush_72 ?_
    replace h := q_be h
    obtain ⟨g5, hv, h⟩ := h
    replace hv := q_sI_e hv
    obtain ⟨_, cg5, dg5, yg5⟩ := hv
    replace h := q_be h
    obtain ⟨g6, hv, h⟩ := h
    replace hv := q_sI_e hv
    obtain ⟨_, cg6, dg6, yg6⟩ := hv
    replace h := q_be h
    obtain ⟨g7, hv, h⟩ := h
    replace hv := q_sI_e hv
    obtain ⟨_, cg7, dg7, yg7⟩ := hv
    replace h := q_be h
    obtain ⟨g8, hv, h⟩ := h
    replace hv := q_sI_e hv
    obtain ⟨_, cg8, dg8, yg8⟩ := hv
    replace h := q_be h
    obtain ⟨g9, hv, h⟩ := h
    replace hv := q_sI_e hv
    obtain ⟨_, cg9, dg9, yg9⟩ := hv
    cases h
    exact ⟨⟨some _, rfl⟩, _, cg5, dg5, rfl, rfl, _, yg5, ⟨some _, rfl⟩, _, cg6, dg6, rfl, rfl, _, yg6, ⟨some _, rfl⟩, _, cg7, dg7, rfl, rfl, _, yg7, ⟨some _, rfl⟩, _, cg8, dg8, rfl, rfl, _, yg8, ⟨some _, rfl⟩, _, cg9, dg9, rfl, rfl, _, yg9, rfl, rfl, hk⟩
  · replace h := q_ifn (hc4) h
    cases h
    exact ⟨rfl, rfl, hk⟩
noncomputable def jX12_brush_60 (g : ps_G) (x0 : Nat) (x1 : Int32) (x2 : Int32) (x3 : Int32) (x4 : Int32) (x5 : Int32) (k0 : Nat) : Option (ps_G) := jX12_brush_61 g x0 x1 x2 x3 x4 x5 k0 (1 : Int32)
theorem pjX12_brush_60 {d : Nat} {Q : ps_Rs → ps_G → Prop} {g : ps_G} {x0 : Nat} {x1 : Int32} {x2 : Int32} {x3 : Int32} {x4 : Int32} {x5 : Int32} {k0 : Nat} {r : ps_G} (h : jX12_brush_60 g x0 x1 x2 x3 x4 x5 k0 = some r) (hk : Q (.inl none) r) : ps_At mX12_brush (d + 1) 60 [(0, .ref x0), (1, .int x1), (2, .int x2), (3, .int x3), (4, .int x4), (5, .int x5)] [.ref k0] g Q := by
  unfold jX12_brush_60 at h
  refine sX12_brush_60 ?_
  exact ps_weak (pjX12_brush_61 h hk) ⟨rfl, rfl, rfl, rfl, rfl, rfl, trivial⟩
noncomputable def fX12_brush (g : ps_G) (x0 : Nat) (x1 : Int32) (x2 : Int32) (x3 : Int32) (x4 : Int32) (x5 : Int32) : Option (ps_G) := if (fX12_in x1 (1 : Int32) (64 : Int32)) = 0 then (jX12_brush_60 g x0 x1 x2 x3 x4 x5 x0) else (if (fX12_in x2 (0 : Int32) (255 : Int32)) = 0 then (jX12_brush_60 g x0 x1 x2 x3 x4 x5 x0) else (if (fX12_in x3 (2 : Int32) (64 : Int32)) = 0 then (jX12_brush_60 g x0 x1 x2 x3 x4 x5 x0) else (if (fX12_in x4 (0 : Int32) (255 : Int32)) = 0 then (jX12_brush_60 g x0 x1 x2 x3 x4 x5 x0) else (if (fX12_in x5 (0 : Int32) (255 : Int32)) = 0 then (jX12_brush_60 g x0 x1 x2 x3 x4 x5 x0) else (jX12_brush_61 g x0 x1 x2 x3 x4 x5 x0 (0 : Int32))))))
theorem rX12_brush {d : Nat} {Q : ps_Rs → ps_G → Prop} {g : ps_G} {x0 : Nat} {x1 : Int32} {x2 : Int32} {x3 : Int32} {x4 : Int32} {x5 : Int32} {r : ps_G} (h : fX12_brush g x0 x1 x2 x3 x4 x5 = some r) (hk : Q (.inl none) r) : ps_Ok mX12_brush (d + 1) [.ref x0, .int x1, .int x2, .int x3, .int x4, .int x5] g Q := by
  unfold fX12_brush at h
  refine sX12_brush_0 ?_
  refine ⟨⟨some _, rfl⟩, ?_⟩
  refine rX12_in rfl ?_
  refine And.intro (fun hc1 => ?_) (fun hc1 => ?_)
  · replace h := q_ifp (hc1) h
    exact ps_weak (pjX12_brush_60 h hk) ⟨rfl, rfl, rfl, rfl, rfl, rfl, trivial⟩
  · replace h := q_ifn (hc1) h
    refine rX12_in rfl ?_
    refine And.intro (fun hc12 => ?_) (fun hc12 => ?_)
    · replace h := q_ifp (hc12) h
      exact ps_weak (pjX12_brush_60 h hk) ⟨rfl, rfl, rfl, rfl, rfl, rfl, trivial⟩
    · replace h := q_ifn (hc12) h
      refine rX12_in rfl ?_
      refine And.intro (fun hc13 => ?_) (fun hc13 => ?_)
      · replace h := q_ifp (hc13) h
        exact ps_weak (pjX12_brush_60 h hk) ⟨rfl, rfl, rfl, rfl, rfl, rfl, trivial⟩
      · replace h := q_ifn (hc13) h
        refine rX12_in rfl ?_
        refine And.intro (fun hc14 => ?_) (fun hc14 => ?_)
        · replace h := q_ifp (hc14) h
          exact ps_weak (pjX12_brush_60 h hk) ⟨rfl, rfl, rfl, rfl, rfl, rfl, trivial⟩
        · replace h := q_ifn (hc14) h
          refine rX12_in rfl ?_
          refine And.intro (fun hc15 => ?_) (fun hc15 => ?_)
          · replace h := q_ifp (hc15) h
            exact ps_weak (pjX12_brush_60 h hk) ⟨rfl, rfl, rfl, rfl, rfl, rfl, trivial⟩
          · replace h := q_ifn (hc15) h
            exact ps_weak (pjX12_brush_61 h hk) ⟨rfl, rfl, rfl, rfl, rfl, rfl, trivial⟩
noncomputable def jX12_source_28 (g : ps_G) (x0 : Nat) (x1 : Int32) (x2 : Int32) (k0 : Nat) (k1 : Int32) : Option (ps_G) := Option.bind (q_sI 12 0 g k0 k1) fun g2 => Option.bind (q_fI 12 0 g2 x0) fun v3 => if v3 ≤ 0 then (Option.bind (q_sI 12 41 g2 x0 x1) fun g5 => Option.bind (q_sI 12 42 g5 x0 x2) fun g6 => some g6) else (some g2)
theorem pjX12_source_28 {d : Nat} {Q : ps_Rs → ps_G → Prop} {g : ps_G} {x0 : Nat} {x1 : Int32} {x2 : Int32} {k0 : Nat} {k1 : Int32} {r : ps_G} (h : jX12_source_28 g x0 x1 x2 k0 k1 = some r) (hk : Q (.inl none) r) : ps_At mX12_source (d + 1) 28 [(0, .ref x0), (1, .int x1), (2, .int x2)] [.int k1, .ref k0] g Q := by
  unfold jX12_source_28 at h
  refine sX12_source_28 ?_
  replace h := q_be h
  obtain ⟨g2, hv, h⟩ := h
  replace hv := q_sI_e hv
  obtain ⟨_, cg2, dg2, yg2⟩ := hv
  replace h := q_be h
  obtain ⟨v3, hv, h⟩ := h
  replace hv := q_fI_e hv
  obtain ⟨_, cv3, dv3⟩ := hv
  refine ⟨_, cg2, dg2, rfl, rfl, _, yg2, ⟨some _, rfl⟩, _, _, cv3, dv3, ?_⟩
  refine And.intro (fun hc4 => ?_) (fun hc4 => ?_)
  · replace h := q_ifp (hc4) h
    refine sX12_source_39 ?_
    replace h := q_be h
    obtain ⟨g5, hv, h⟩ := h
    replace hv := q_sI_e hv
    obtain ⟨_, cg5, dg5, yg5⟩ := hv
    replace h := q_be h
    obtain ⟨g6, hv, h⟩ := h
    replace hv := q_sI_e hv
    obtain ⟨_, cg6, dg6, yg6⟩ := hv
    cases h
    exact ⟨⟨some _, rfl⟩, _, cg5, dg5, rfl, rfl, _, yg5, ⟨some _, rfl⟩, _, cg6, dg6, rfl, rfl, _, yg6, rfl, rfl, hk⟩
  · replace h := q_ifn (hc4) h
    cases h
    exact ⟨rfl, rfl, hk⟩
noncomputable def jX12_source_27 (g : ps_G) (x0 : Nat) (x1 : Int32) (x2 : Int32) (k0 : Nat) : Option (ps_G) := jX12_source_28 g x0 x1 x2 k0 (1 : Int32)
theorem pjX12_source_27 {d : Nat} {Q : ps_Rs → ps_G → Prop} {g : ps_G} {x0 : Nat} {x1 : Int32} {x2 : Int32} {k0 : Nat} {r : ps_G} (h : jX12_source_27 g x0 x1 x2 k0 = some r) (hk : Q (.inl none) r) : ps_At mX12_source (d + 1) 27 [(0, .ref x0), (1, .int x1), (2, .int x2)] [.ref k0] g Q := by
  unfold jX12_source_27 at h
  refine sX12_source_27 ?_
  exact ps_weak (pjX12_source_28 h hk) ⟨rfl, rfl, rfl, trivial⟩
noncomputable def fX12_source (g : ps_G) (x0 : Nat) (x1 : Int32) (x2 : Int32) : Option (ps_G) := if (fX12_in x1 (-100 : Int32) (100 : Int32)) = 0 then (jX12_source_27 g x0 x1 x2 x0) else (if (fX12_in x2 (-100 : Int32) (100 : Int32)) = 0 then (jX12_source_27 g x0 x1 x2 x0) else (jX12_source_28 g x0 x1 x2 x0 (0 : Int32)))
theorem rX12_source {d : Nat} {Q : ps_Rs → ps_G → Prop} {g : ps_G} {x0 : Nat} {x1 : Int32} {x2 : Int32} {r : ps_G} (h : fX12_source g x0 x1 x2 = some r) (hk : Q (.inl none) r) : ps_Ok mX12_source (d + 1) [.ref x0, .int x1, .int x2] g Q := by
  unfold fX12_source at h
  refine sX12_source_0 ?_
  refine ⟨⟨some _, rfl⟩, ?_⟩
  refine rX12_in rfl ?_
  refine And.intro (fun hc1 => ?_) (fun hc1 => ?_)
  · replace h := q_ifp (hc1) h
    exact ps_weak (pjX12_source_27 h hk) ⟨rfl, rfl, rfl, trivial⟩
  · replace h := q_ifn (hc1) h
    refine rX12_in rfl ?_
    refine And.intro (fun hc9 => ?_) (fun hc9 => ?_)
    · replace h := q_ifp (hc9) h
      exact ps_weak (pjX12_source_27 h hk) ⟨rfl, rfl, rfl, trivial⟩
    · replace h := q_ifn (hc9) h
      exact ps_weak (pjX12_source_28 h hk) ⟨rfl, rfl, rfl, trivial⟩
noncomputable def jX12_point_68 (g : ps_G) (x0 : Nat) (x1 : Int32) (x2 : Int32) (x3 : Int32) (k0 : Nat) (k1 : Int32) : Option (Int32 × ps_G) := Option.bind (q_sI 12 0 g k0 k1) fun g8 => Option.bind (q_fI 12 0 g8 x0) fun v9 => if v9 ≤ 0 then (Option.bind (q_fR 12 44 g8 x0) fun v11 => Option.bind (v11) fun a12 => Option.bind (q_fI 12 43 g8 x0) fun v13 => Option.bind (q_wI g8 a12 v13 x1) fun g14 => Option.bind (q_fR 12 45 g14 x0) fun v15 => Option.bind (v15) fun a16 => Option.bind (q_fI 12 43 g14 x0) fun v17 => Option.bind (q_wI g14 a16 v17 x2) fun g18 => Option.bind (q_fR 12 46 g18 x0) fun v19 => Option.bind (v19) fun a20 => Option.bind (q_fI 12 43 g18 x0) fun v21 => Option.bind (q_wI g18 a20 v21 x3) fun g22 => Option.bind (q_fI 12 43 g22 x0) fun v23 => Option.bind (q_sI 12 43 g22 x0 (v23 + (1 : Int32))) fun g24 => Option.bind (q_fI 12 43 g24 x0) fun v25 => some (v25, g24)) else (some ((0 : Int32), g8))
theorem pjX12_point_68 {d : Nat} {Q : ps_Rs → ps_G → Prop} {g : ps_G} {x0 : Nat} {x1 : Int32} {x2 : Int32} {x3 : Int32} {k0 : Nat} {k1 : Int32} {r : Int32 × ps_G} (h : jX12_point_68 g x0 x1 x2 x3 k0 k1 = some r) (hk : Q (.inl (some (.int r.1))) r.2) : ps_At mX12_point (d + 1) 68 [(0, .ref x0), (1, .int x1), (2, .int x2), (3, .int x3)] [.int k1, .ref k0] g Q := by
  unfold jX12_point_68 at h
  refine sX12_point_68 ?_
  replace h := q_be h
  obtain ⟨g8, hv, h⟩ := h
  replace hv := q_sI_e hv
  obtain ⟨_, cg8, dg8, yg8⟩ := hv
  replace h := q_be h
  obtain ⟨v9, hv, h⟩ := h
  replace hv := q_fI_e hv
  obtain ⟨_, cv9, dv9⟩ := hv
  refine ⟨_, cg8, dg8, rfl, rfl, _, yg8, ⟨some _, rfl⟩, _, _, cv9, dv9, ?_⟩
  refine And.intro (fun hc10 => ?_) (fun hc10 => ?_)
  · replace h := q_ifp (hc10) h
    refine sX12_point_80 ?_
    replace h := q_be h
    obtain ⟨v11, hv, h⟩ := h
    replace hv := q_fR_e hv
    obtain ⟨_, cv11, dv11⟩ := hv
    replace h := q_be h
    obtain ⟨a12, ea12, h⟩ := h
    subst ea12
    replace h := q_be h
    obtain ⟨v13, hv, h⟩ := h
    replace hv := q_fI_e hv
    obtain ⟨_, cv13, dv13⟩ := hv
    replace h := q_be h
    obtain ⟨g14, hv, h⟩ := h
    replace hv := q_wI_e hv
    obtain ⟨_, _, cg14, pg14, ig14, yg14⟩ := hv
    replace h := q_be h
    obtain ⟨v15, hv, h⟩ := h
    replace hv := q_fR_e hv
    obtain ⟨_, cv15, dv15⟩ := hv
    replace h := q_be h
    obtain ⟨a16, ea16, h⟩ := h
    subst ea16
    replace h := q_be h
    obtain ⟨v17, hv, h⟩ := h
    replace hv := q_fI_e hv
    obtain ⟨_, cv17, dv17⟩ := hv
    replace h := q_be h
    obtain ⟨g18, hv, h⟩ := h
    replace hv := q_wI_e hv
    obtain ⟨_, _, cg18, pg18, ig18, yg18⟩ := hv
    replace h := q_be h
    obtain ⟨v19, hv, h⟩ := h
    replace hv := q_fR_e hv
    obtain ⟨_, cv19, dv19⟩ := hv
    replace h := q_be h
    obtain ⟨a20, ea20, h⟩ := h
    subst ea20
    replace h := q_be h
    obtain ⟨v21, hv, h⟩ := h
    replace hv := q_fI_e hv
    obtain ⟨_, cv21, dv21⟩ := hv
    refine ⟨⟨some _, rfl⟩, _, _, cv11, dv11, ⟨some _, rfl⟩, _, _, cv13, dv13, _, _, cg14, pg14, ig14, _, yg14, ⟨some _, rfl⟩, _, _, cv15, dv15, ⟨some _, rfl⟩, _, _, cv17, dv17, _, _, cg18, pg18, ig18, _, yg18, ⟨some _, rfl⟩, _, _, cv19, dv19, ⟨some _, rfl⟩, _, _, cv21, dv21, ?_⟩
    replace h := q_be h
    obtain ⟨g22, hv, h⟩ := h
    replace hv := q_wI_e hv
    obtain ⟨_, _, cg22, pg22, ig22, yg22⟩ := hv
    replace h := q_be h
    obtain ⟨v23, hv, h⟩ := h
    replace hv := q_fI_e hv
    obtain ⟨_, cv23, dv23⟩ := hv
    replace h := q_be h
    obtain ⟨g24, hv, h⟩ := h
    replace hv := q_sI_e hv
    obtain ⟨_, cg24, dg24, yg24⟩ := hv
    replace h := q_be h
    obtain ⟨v25, hv, h⟩ := h
    replace hv := q_fI_e hv
    obtain ⟨_, cv25, dv25⟩ := hv
    cases h
    exact ⟨_, _, cg22, pg22, ig22, _, yg22, ⟨some _, rfl⟩, rfl, _, _, cv23, dv23, _, cg24, dg24, rfl, rfl, _, yg24, ⟨some _, rfl⟩, _, _, cv25, dv25, rfl, hk⟩
  · replace h := q_ifn (hc10) h
    cases h
    exact ⟨rfl, hk⟩
noncomputable def jX12_point_42 (g : ps_G) (x0 : Nat) (x1 : Int32) (x2 : Int32) (x3 : Int32) (k0 : Int32) : Option (Int32 × ps_G) := if ¬ k0 = 0 then (Option.bind (q_fI 12 43 g x0) fun v4 => jX12_point_68 g x0 x1 x2 x3 x0 (if ¬ v4 = (20 : Int32) then (0 : Int32) else (2 : Int32))) else (jX12_point_68 g x0 x1 x2 x3 x0 (1 : Int32))
theorem pjX12_point_42 {d : Nat} {Q : ps_Rs → ps_G → Prop} {g : ps_G} {x0 : Nat} {x1 : Int32} {x2 : Int32} {x3 : Int32} {k0 : Int32} {r : Int32 × ps_G} (h : jX12_point_42 g x0 x1 x2 x3 k0 = some r) (hk : Q (.inl (some (.int r.1))) r.2) : ps_At mX12_point (d + 1) 42 [(0, .ref x0), (1, .int x1), (2, .int x2), (3, .int x3)] [.int k0] g Q := by
  unfold jX12_point_42 at h
  refine sX12_point_42 ?_
  refine ⟨by decide, ⟨some _, rfl⟩, ?_⟩
  refine And.intro (fun hc2 => ?_) (fun hc2 => ?_)
  · replace h := q_ifp (hc2) h
    refine sX12_point_54 ?_
    replace h := q_be h
    obtain ⟨v4, hv, h⟩ := h
    replace hv := q_fI_e hv
    obtain ⟨_, cv4, dv4⟩ := hv
    have kJ7 : ∀ w6 : Int32, w6 = (if ¬ v4 = (20 : Int32) then (0 : Int32) else (2 : Int32)) → ps_At mX12_point (d + 1) 68 [(0, .ref x0), (1, .int x1), (2, .int x2), (3, .int x3)] [.int w6, .ref x0] g Q := by
      rintro _ rfl
      exact ps_weak (pjX12_point_68 h hk) ⟨rfl, rfl, rfl, rfl, trivial⟩
    refine ⟨⟨some _, rfl⟩, _, _, cv4, dv4, ?_⟩
    refine And.intro (fun hc5 => ?_) (fun hc5 => ?_)
    · refine sX12_point_67 ?_
      exact ps_weak (kJ7 _ (if_pos (hc5)).symm) ⟨rfl, rfl, rfl, rfl, trivial⟩
    · exact ps_weak (kJ7 _ (if_neg (hc5)).symm) ⟨rfl, rfl, rfl, rfl, trivial⟩
  · replace h := q_ifn (hc2) h
    exact ps_weak (pjX12_point_68 h hk) ⟨rfl, rfl, rfl, rfl, trivial⟩
noncomputable def jX12_point_41 (g : ps_G) (x0 : Nat) (x1 : Int32) (x2 : Int32) (x3 : Int32) : Option (Int32 × ps_G) := jX12_point_42 g x0 x1 x2 x3 (0 : Int32)
theorem pjX12_point_41 {d : Nat} {Q : ps_Rs → ps_G → Prop} {g : ps_G} {x0 : Nat} {x1 : Int32} {x2 : Int32} {x3 : Int32} {r : Int32 × ps_G} (h : jX12_point_41 g x0 x1 x2 x3 = some r) (hk : Q (.inl (some (.int r.1))) r.2) : ps_At mX12_point (d + 1) 41 [(0, .ref x0), (1, .int x1), (2, .int x2), (3, .int x3)] [] g Q := by
  unfold jX12_point_41 at h
  refine sX12_point_41 ?_
  exact ps_weak (pjX12_point_42 h hk) ⟨rfl, rfl, rfl, rfl, trivial⟩
noncomputable def fX12_point (g : ps_G) (x0 : Nat) (x1 : Int32) (x2 : Int32) (x3 : Int32) : Option (Int32 × ps_G) := if (fX12_in x1 (-200 : Int32) (200 : Int32)) = 0 then (jX12_point_41 g x0 x1 x2 x3) else (if (fX12_in x2 (-200 : Int32) (200 : Int32)) = 0 then (jX12_point_41 g x0 x1 x2 x3) else (if (fX12_in x3 (0 : Int32) (255 : Int32)) = 0 then (jX12_point_41 g x0 x1 x2 x3) else (jX12_point_42 g x0 x1 x2 x3 (1 : Int32))))
theorem rX12_point {d : Nat} {Q : ps_Rs → ps_G → Prop} {g : ps_G} {x0 : Nat} {x1 : Int32} {x2 : Int32} {x3 : Int32} {r : Int32 × ps_G} (h : fX12_point g x0 x1 x2 x3 = some r) (hk : Q (.inl (some (.int r.1))) r.2) : ps_Ok mX12_point (d + 1) [.ref x0, .int x1, .int x2, .int x3] g Q := by
  unfold fX12_point at h
  refine sX12_point_0 ?_
  refine rX12_in rfl ?_
  refine And.intro (fun hc1 => ?_) (fun hc1 => ?_)
  · replace h := q_ifp (hc1) h
    exact ps_weak (pjX12_point_41 h hk) ⟨rfl, rfl, rfl, rfl, trivial⟩
  · replace h := q_ifn (hc1) h
    refine rX12_in rfl ?_
    refine And.intro (fun hc30 => ?_) (fun hc30 => ?_)
    · replace h := q_ifp (hc30) h
      exact ps_weak (pjX12_point_41 h hk) ⟨rfl, rfl, rfl, rfl, trivial⟩
    · replace h := q_ifn (hc30) h
      refine rX12_in rfl ?_
      refine And.intro (fun hc31 => ?_) (fun hc31 => ?_)
      · replace h := q_ifp (hc31) h
        exact ps_weak (pjX12_point_41 h hk) ⟨rfl, rfl, rfl, rfl, trivial⟩
      · replace h := q_ifn (hc31) h
        exact ps_weak (pjX12_point_42 h hk) ⟨rfl, rfl, rfl, rfl, trivial⟩
noncomputable def bX12_root_5 (g : ps_G) (x0 : Int32) (x1 : Int32) (x2 : Int32) : Option ((Int32 × Int32) ⊕ (Int32)) := if x2 ≤ 0 then (some (.inr x1)) else (some (.inl ((if 0 < (lg_cmp ((Int32.toInt64 (x1 + x2)) * (Int32.toInt64 (x1 + x2))) (Int32.toInt64 x0)) then x1 else x1 + x2), x2 / (2 : Int32))))
theorem pbX12_root_5 {d : Nat} {Q : ps_Rs → ps_G → Prop} {g : ps_G} {x0 : Int32} {x1 : Int32} {x2 : Int32} {x : (Int32 × Int32) ⊕ (Int32)} (h : bX12_root_5 g x0 x1 x2 = some x) (hh : ∀ s' : Int32 × Int32, x = .inl s' → ps_At mX12_root d 5 [(0, .int x0), (1, .int s'.1), (2, .int s'.2)] [] g Q) (he : ∀ r' : Int32, x = .inr r' → ps_At mX12_root d 34 [(1, .int r')] [] g Q) : ps_At mX12_root d 5 [(0, .int x0), (1, .int x1), (2, .int x2)] [] g Q := by
  unfold bX12_root_5 at h
  refine sX12_root_5 ?_
  refine And.intro (fun hc1 => ?_) (fun hc1 => ?_)
  · replace h := q_ifp (hc1) h
    exact ps_weak (he x1 (Option.some.inj h).symm) ⟨rfl, trivial⟩
  · replace h := q_ifn (hc1) h
    have kJ7 : ∀ w6 : Int32, w6 = (if 0 < (lg_cmp ((Int32.toInt64 (x1 + x2)) * (Int32.toInt64 (x1 + x2))) (Int32.toInt64 x0)) then x1 else x1 + x2) → ps_At mX12_root d 27 [(0, .int x0), (1, .int w6), (2, .int x2)] [] g Q := by
      rintro _ rfl
      refine sX12_root_27 ?_
      refine ⟨by decide, _, rfl, by decide, ?_⟩
      exact ps_weak (hh ((if 0 < (lg_cmp ((Int32.toInt64 (x1 + x2)) * (Int32.toInt64 (x1 + x2))) (Int32.toInt64 x0)) then x1 else x1 + x2), x2 / (2 : Int32)) (Option.some.inj h).symm) ⟨rfl, rfl, rfl, trivial⟩
    refine ⟨by decide, ?_⟩
    refine And.intro (fun hc5 => ?_) (fun hc5 => ?_)
    · exact ps_weak (kJ7 _ (if_pos (hc5)).symm) ⟨rfl, rfl, rfl, trivial⟩
    · refine ⟨by decide, ?_⟩
      exact ps_weak (kJ7 _ (if_neg (hc5)).symm) ⟨rfl, rfl, rfl, trivial⟩
noncomputable def fX12_root (g : ps_G) (x0 : Int32) : Option (Int32) := Option.bind (q_lp (fun s => bX12_root_5 g x0 s.1 s.2) ((0 : Int32), (32768 : Int32))) fun s10 => some s10
theorem rX12_root {d : Nat} {Q : ps_Rs → ps_G → Prop} {g : ps_G} {x0 : Int32} {r : Int32} (h : fX12_root g x0 = some r) (hk : Q (.inl (some (.int r))) g) : ps_Ok mX12_root d [.int x0] g Q := by
  unfold fX12_root at h
  refine sX12_root_0 ?_
  refine ⟨by decide, by decide, ?_⟩
  replace h := q_be h
  obtain ⟨s10, hl, h⟩ := h
  refine ps_weak (q_lp_ok hl (fun s => ps_At mX12_root d 5 [(0, .int x0), (1, .int s.1), (2, .int s.2)] [] g Q) (fun r => ps_At mX12_root d 34 [(1, .int r)] [] g Q) (fun s x hb hh he => pbX12_root_5 hb hh he) ?_) ⟨rfl, rfl, rfl, trivial⟩
  refine (?_ : ps_At mX12_root d 34 [(1, .int s10)] [] g Q)
  refine sX12_root_34 ?_
  cases h
  exact ⟨rfl, hk⟩
noncomputable def jX12_dab_133_46 (g : ps_G) (x0 : Nat) (x1 : Int32) (x2 : Int32) (x4 : Int32) (x5 : Int32) (x6 : Int32) (x7 : Int32) (x8 : Int32) (k0 : Int32) : Option ((Int32 × ps_G) ⊕ (ps_G)) := Option.bind (q_fR 12 47 g x0) fun v16 => Option.bind (v16) fun a17 => Option.bind (q_ob 12 g x0) fun u18 => Option.bind (fX12_at g x0 x8 x7) fun v19 => Option.bind (q_aI g a17 v19) fun v20 => Option.bind (q_fR 12 47 g x0) fun v21 => Option.bind (v21) fun a22 => Option.bind (q_ob 12 g x0) fun u23 => Option.bind (fX12_at g x0 x8 x7) fun v24 => Option.bind (q_aI g a22 v24) fun v25 => Option.bind (q_wI g a17 v19 (v20 + (fX12_mul ((255 : Int32) - v25) (fX12_mul k0 x6)))) fun g26 => some (.inl (x8 + (1 : Int32), g26))
theorem pjX12_dab_133_46 {d : Nat} {Q : ps_Rs → ps_G → Prop} {g : ps_G} {x0 : Nat} {x1 : Int32} {x2 : Int32} {x4 : Int32} {x5 : Int32} {x6 : Int32} {x7 : Int32} {x8 : Int32} {k0 : Int32} {x : (Int32 × ps_G) ⊕ (ps_G)} (h : jX12_dab_133_46 g x0 x1 x2 x4 x5 x6 x7 x8 k0 = some x) (hh : ∀ s' : Int32 × ps_G, x = .inl s' → ps_At mX12_dab (d + 1) 46 [(0, .ref x0), (1, .int x1), (2, .int x2), (4, .int x4), (5, .int x5), (6, .int x6), (7, .int x7), (8, .int s'.1)] [] s'.2 Q) (he : ∀ r' : ps_G, x = .inr r' → ps_At mX12_dab (d + 1) 188 [(0, .ref x0), (1, .int x1), (2, .int x2), (4, .int x4), (5, .int x5), (6, .int x6), (7, .int x7)] [] r' Q) : ps_At mX12_dab (d + 1) 133 [(0, .ref x0), (1, .int x1), (2, .int x2), (4, .int x4), (5, .int x5), (6, .int x6), (7, .int x7), (8, .int x8)] [.int k0] g Q := by
  unfold jX12_dab_133_46 at h
  refine sX12_dab_133 ?_
  refine ⟨by decide, ?_⟩
  refine rX12_mul rfl ?_
  replace h := q_be h
  obtain ⟨v16, hv, h⟩ := h
  replace hv := q_fR_e hv
  obtain ⟨_, cv16, dv16⟩ := hv
  replace h := q_be h
  obtain ⟨a17, ea17, h⟩ := h
  subst ea17
  replace h := q_be h
  obtain ⟨u18, hv, h⟩ := h
  replace hv := q_ob_e hv
  obtain ⟨_, cu18⟩ := hv
  replace h := q_be h
  obtain ⟨v19, hv, h⟩ := h
  refine ⟨by decide, ⟨some _, rfl⟩, _, _, cv16, dv16, ⟨some _, rfl⟩, ⟨_, cu18⟩, ?_⟩
  refine rX12_at hv ?_
  replace h := q_be h
  obtain ⟨v20, hv, h⟩ := h
  replace hv := q_aI_e hv
  obtain ⟨_, _, cv20, iv20, yv20⟩ := hv
  replace h := q_be h
  obtain ⟨v21, hv, h⟩ := h
  replace hv := q_fR_e hv
  obtain ⟨_, cv21, dv21⟩ := hv
  replace h := q_be h
  obtain ⟨a22, ea22, h⟩ := h
  subst ea22
  replace h := q_be h
  obtain ⟨u23, hv, h⟩ := h
  replace hv := q_ob_e hv
  obtain ⟨_, cu23⟩ := hv
  replace h := q_be h
  obtain ⟨v24, hv, h⟩ := h
  refine ⟨rfl, rfl, _, _, cv20, iv20, _, yv20, ⟨some _, rfl⟩, _, _, cv21, dv21, ⟨some _, rfl⟩, ⟨_, cu23⟩, ?_⟩
  refine rX12_at hv ?_
  replace h := q_be h
  obtain ⟨v25, hv, h⟩ := h
  replace hv := q_aI_e hv
  obtain ⟨_, _, cv25, iv25, yv25⟩ := hv
  refine ⟨_, _, cv25, iv25, _, yv25, ?_⟩
  refine rX12_mul rfl ?_
  replace h := q_be h
  obtain ⟨g26, hv, h⟩ := h
  replace hv := q_wI_e hv
  obtain ⟨_, _, cg26, pg26, ig26, yg26⟩ := hv
  refine ⟨_, _, cg26, pg26, ig26, _, yg26, by decide, ?_⟩
  exact ps_weak (hh (x8 + (1 : Int32), g26) (Option.some.inj h).symm) ⟨rfl, rfl, rfl, rfl, rfl, rfl, rfl, rfl, trivial⟩
noncomputable def bX12_dab_46 (x0 : Nat) (x1 : Int32) (x2 : Int32) (x4 : Int32) (x5 : Int32) (x6 : Int32) (x7 : Int32) (x8 : Int32) (g : ps_G) : Option ((Int32 × ps_G) ⊕ (ps_G)) := Option.bind (q_fI 12 13 g x0) fun v6 => if v6 ≤ x8 then (some (.inr g)) else (Option.bind (fX12_root g ((16 : Int32) * ((((((4 : Int32) * x8) + (2 : Int32)) - x1) * ((((4 : Int32) * x8) + (2 : Int32)) - x1)) + (((((4 : Int32) * x7) + (2 : Int32)) - x2) * ((((4 : Int32) * x7) + (2 : Int32)) - x2))))) fun v9 => if v9 ≤ x4 then (if x5 < v9 then (Option.bind (q_div ((255 : Int32) * (x4 - v9)) (x4 - x5)) fun v15 => jX12_dab_133_46 g x0 x1 x2 x4 x5 x6 x7 x8 v15) else (jX12_dab_133_46 g x0 x1 x2 x4 x5 x6 x7 x8 (255 : Int32))) else (jX12_dab_133_46 g x0 x1 x2 x4 x5 x6 x7 x8 (0 : Int32)))
theorem pbX12_dab_46 {d : Nat} {Q : ps_Rs → ps_G → Prop}  {x0 : Nat} {x1 : Int32} {x2 : Int32} {x4 : Int32} {x5 : Int32} {x6 : Int32} {x7 : Int32} {x8 : Int32} {g : ps_G} {x : (Int32 × ps_G) ⊕ (ps_G)} (h : bX12_dab_46 x0 x1 x2 x4 x5 x6 x7 x8 g = some x) (hh : ∀ s' : Int32 × ps_G, x = .inl s' → ps_At mX12_dab (d + 1) 46 [(0, .ref x0), (1, .int x1), (2, .int x2), (4, .int x4), (5, .int x5), (6, .int x6), (7, .int x7), (8, .int s'.1)] [] s'.2 Q) (he : ∀ r' : ps_G, x = .inr r' → ps_At mX12_dab (d + 1) 188 [(0, .ref x0), (1, .int x1), (2, .int x2), (4, .int x4), (5, .int x5), (6, .int x6), (7, .int x7)] [] r' Q) : ps_At mX12_dab (d + 1) 46 [(0, .ref x0), (1, .int x1), (2, .int x2), (4, .int x4), (5, .int x5), (6, .int x6), (7, .int x7), (8, .int x8)] [] g Q := by
  unfold bX12_dab_46 at h
  refine sX12_dab_46 ?_
  replace h := q_be h
  obtain ⟨v6, hv, h⟩ := h
  replace hv := q_fI_e hv
  obtain ⟨_, cv6, dv6⟩ := hv
  refine ⟨⟨some _, rfl⟩, _, _, cv6, dv6, ?_⟩
  refine And.intro (fun hc7 => ?_) (fun hc7 => ?_)
  · replace h := q_ifp (hc7) h
    exact ps_weak (he g (Option.some.inj h).symm) ⟨rfl, rfl, rfl, rfl, rfl, rfl, rfl, trivial⟩
  · replace h := q_ifn (hc7) h
    replace h := q_be h
    obtain ⟨v9, hv, h⟩ := h
    refine ⟨by decide, by decide, ?_⟩
    refine rX12_root hv ?_
    refine ⟨by decide, ?_⟩
    refine And.intro (fun hc10 => ?_) (fun hc10 => ?_)
    · replace h := q_ifp (hc10) h
      refine sX12_dab_105 ?_
      refine And.intro (fun hc13 => ?_) (fun hc13 => ?_)
      · replace h := q_ifp (hc13) h
        refine sX12_dab_118 ?_
        replace h := q_be h
        obtain ⟨v15, hv, h⟩ := h
        replace hv := q_div_e hv
        obtain ⟨zv15, yv15⟩ := hv
        refine ⟨zv15, _, yv15, ?_⟩
        exact ps_weak (pjX12_dab_133_46 h hh he) ⟨rfl, rfl, rfl, rfl, rfl, rfl, rfl, rfl, trivial⟩
      · replace h := q_ifn (hc13) h
        exact ps_weak (pjX12_dab_133_46 h hh he) ⟨rfl, rfl, rfl, rfl, rfl, rfl, rfl, rfl, trivial⟩
    · replace h := q_ifn (hc10) h
      exact ps_weak (pjX12_dab_133_46 h hh he) ⟨rfl, rfl, rfl, rfl, rfl, rfl, rfl, rfl, trivial⟩
noncomputable def bX12_dab_34 (x0 : Nat) (x1 : Int32) (x2 : Int32) (x4 : Int32) (x5 : Int32) (x6 : Int32) (x7 : Int32) (g : ps_G) : Option ((Int32 × ps_G) ⊕ (ps_G)) := Option.bind (q_fI 12 14 g x0) fun v4 => if v4 ≤ x7 then (some (.inr g)) else (Option.bind (q_lp (fun s => bX12_dab_46 x0 x1 x2 x4 x5 x6 x7 s.1 s.2) ((0 : Int32), g)) fun s33 => some (.inl (x7 + (1 : Int32), s33)))
theorem pbX12_dab_34 {d : Nat} {Q : ps_Rs → ps_G → Prop}  {x0 : Nat} {x1 : Int32} {x2 : Int32} {x4 : Int32} {x5 : Int32} {x6 : Int32} {x7 : Int32} {g : ps_G} {x : (Int32 × ps_G) ⊕ (ps_G)} (h : bX12_dab_34 x0 x1 x2 x4 x5 x6 x7 g = some x) (hh : ∀ s' : Int32 × ps_G, x = .inl s' → ps_At mX12_dab (d + 1) 34 [(0, .ref x0), (1, .int x1), (2, .int x2), (4, .int x4), (5, .int x5), (6, .int x6), (7, .int s'.1)] [] s'.2 Q) (he : ∀ r' : ps_G, x = .inr r' → ps_At mX12_dab (d + 1) 194 [] [] r' Q) : ps_At mX12_dab (d + 1) 34 [(0, .ref x0), (1, .int x1), (2, .int x2), (4, .int x4), (5, .int x5), (6, .int x6), (7, .int x7)] [] g Q := by
  unfold bX12_dab_34 at h
  refine sX12_dab_34 ?_
  replace h := q_be h
  obtain ⟨v4, hv, h⟩ := h
  replace hv := q_fI_e hv
  obtain ⟨_, cv4, dv4⟩ := hv
  refine ⟨⟨some _, rfl⟩, _, _, cv4, dv4, ?_⟩
  refine And.intro (fun hc5 => ?_) (fun hc5 => ?_)
  · replace h := q_ifp (hc5) h
    exact ps_weak (he g (Option.some.inj h).symm) trivial
  · replace h := q_ifn (hc5) h
    refine ⟨by decide, ?_⟩
    replace h := q_be h
    obtain ⟨s33, hl, h⟩ := h
    refine ps_weak (q_lp_ok hl (fun s => ps_At mX12_dab (d + 1) 46 [(0, .ref x0), (1, .int x1), (2, .int x2), (4, .int x4), (5, .int x5), (6, .int x6), (7, .int x7), (8, .int s.1)] [] s.2 Q) (fun r => ps_At mX12_dab (d + 1) 188 [(0, .ref x0), (1, .int x1), (2, .int x2), (4, .int x4), (5, .int x5), (6, .int x6), (7, .int x7)] [] r Q) (fun s x hb hh he => pbX12_dab_46 hb hh he) ?_) ⟨rfl, rfl, rfl, rfl, rfl, rfl, rfl, rfl, trivial⟩
    refine (?_ : ps_At mX12_dab (d + 1) 188 [(0, .ref x0), (1, .int x1), (2, .int x2), (4, .int x4), (5, .int x5), (6, .int x6), (7, .int x7)] [] s33 Q)
    refine sX12_dab_188 ?_
    refine ⟨by decide, ?_⟩
    exact ps_weak (hh (x7 + (1 : Int32), s33) (Option.some.inj h).symm) ⟨rfl, rfl, rfl, rfl, rfl, rfl, rfl, trivial⟩
noncomputable def fX12_dab (g : ps_G) (x0 : Nat) (x1 : Int32) (x2 : Int32) (x3 : Int32) : Option (ps_G) := Option.bind (q_fI 12 36 g x0) fun v1 => Option.bind (q_fI 12 37 g x0) fun v2 => Option.bind (q_fI 12 39 g x0) fun v3 => Option.bind (q_lp (fun s => bX12_dab_34 x0 x1 x2 ((4 : Int32) * v1) ((((4 : Int32) * v1) * v2) / (255 : Int32)) (fX12_mul x3 v3) s.1 s.2) ((0 : Int32), g)) fun s36 => some s36
theorem rX12_dab {d : Nat} {Q : ps_Rs → ps_G → Prop} {g : ps_G} {x0 : Nat} {x1 : Int32} {x2 : Int32} {x3 : Int32} {r : ps_G} (h : fX12_dab g x0 x1 x2 x3 = some r) (hk : Q (.inl none) r) : ps_Ok mX12_dab (d + 1) [.ref x0, .int x1, .int x2, .int x3] g Q := by
  unfold fX12_dab at h
  refine sX12_dab_0 ?_
  replace h := q_be h
  obtain ⟨v1, hv, h⟩ := h
  replace hv := q_fI_e hv
  obtain ⟨_, cv1, dv1⟩ := hv
  replace h := q_be h
  obtain ⟨v2, hv, h⟩ := h
  replace hv := q_fI_e hv
  obtain ⟨_, cv2, dv2⟩ := hv
  replace h := q_be h
  obtain ⟨v3, hv, h⟩ := h
  replace hv := q_fI_e hv
  obtain ⟨_, cv3, dv3⟩ := hv
  refine ⟨⟨some _, rfl⟩, _, _, cv1, dv1, by decide, ⟨some _, rfl⟩, _, _, cv2, dv2, by decide, _, rfl, by decide, ⟨some _, rfl⟩, _, _, cv3, dv3, ?_⟩
  refine rX12_mul rfl ?_
  refine ⟨by decide, by decide, ?_⟩
  replace h := q_be h
  obtain ⟨s36, hl, h⟩ := h
  refine ps_weak (q_lp_ok hl (fun s => ps_At mX12_dab (d + 1) 34 [(0, .ref x0), (1, .int x1), (2, .int x2), (4, .int ((4 : Int32) * v1)), (5, .int ((((4 : Int32) * v1) * v2) / (255 : Int32))), (6, .int (fX12_mul x3 v3)), (7, .int s.1)] [] s.2 Q) (fun r => ps_At mX12_dab (d + 1) 194 [] [] r Q) (fun s x hb hh he => pbX12_dab_34 hb hh he) ?_) ⟨rfl, rfl, rfl, rfl, rfl, rfl, rfl, trivial⟩
  refine (?_ : ps_At mX12_dab (d + 1) 194 [] [] s36 Q)
  refine sX12_dab_194 ?_
  cases h
  exact ⟨rfl, rfl, hk⟩
noncomputable def bX12_dabs_2 (x0 : Nat) (x1 : Int32) (g : ps_G) : Option ((Int32 × ps_G) ⊕ (ps_G)) := if (576 : Int32) ≤ x1 then (some (.inr g)) else (Option.bind (q_fR 12 47 g x0) fun v3 => Option.bind (v3) fun a4 => Option.bind (q_wI g a4 x1 (0 : Int32)) fun g5 => some (.inl (x1 + (1 : Int32), g5)))
theorem pbX12_dabs_2 {d : Nat} {Q : ps_Rs → ps_G → Prop}  {x0 : Nat} {x1 : Int32} {g : ps_G} {x : (Int32 × ps_G) ⊕ (ps_G)} (h : bX12_dabs_2 x0 x1 g = some x) (hh : ∀ s' : Int32 × ps_G, x = .inl s' → ps_At mX12_dabs (d + 2) 2 [(0, .ref x0), (1, .int s'.1)] [] s'.2 Q) (he : ∀ r' : ps_G, x = .inr r' → ps_At mX12_dabs (d + 2) 22 [(0, .ref x0)] [] r' Q) : ps_At mX12_dabs (d + 2) 2 [(0, .ref x0), (1, .int x1)] [] g Q := by
  unfold bX12_dabs_2 at h
  refine sX12_dabs_2 ?_
  refine And.intro (fun hc1 => ?_) (fun hc1 => ?_)
  · replace h := q_ifp (hc1) h
    exact ps_weak (he g (Option.some.inj h).symm) ⟨rfl, trivial⟩
  · replace h := q_ifn (hc1) h
    replace h := q_be h
    obtain ⟨v3, hv, h⟩ := h
    replace hv := q_fR_e hv
    obtain ⟨_, cv3, dv3⟩ := hv
    replace h := q_be h
    obtain ⟨a4, ea4, h⟩ := h
    subst ea4
    replace h := q_be h
    obtain ⟨g5, hv, h⟩ := h
    replace hv := q_wI_e hv
    obtain ⟨_, _, cg5, pg5, ig5, yg5⟩ := hv
    refine ⟨⟨some _, rfl⟩, _, _, cv3, dv3, _, _, cg5, pg5, ig5, _, yg5, by decide, ?_⟩
    exact ps_weak (hh (x1 + (1 : Int32), g5) (Option.some.inj h).symm) ⟨rfl, rfl, trivial⟩
noncomputable def bX12_dabs_114 (x0 : Nat) (x1 : Int32) (x2 : Int32) (x3 : Int32) (x4 : Int32) (x5 : Int32) (x6 : Int32) (x7 : Int32) (g : ps_G) : Option ((Int32 × Int32 × ps_G) ⊕ (Int32 × ps_G)) := if x5 < x7 then (some (.inr (x6, g))) else (Option.bind (q_fR 12 44 g x0) fun v39 => Option.bind (v39) fun a40 => Option.bind (q_aI g a40 (x2 - (1 : Int32))) fun v41 => Option.bind (q_div (x3 * x7) x5) fun v42 => Option.bind (q_fR 12 45 g x0) fun v43 => Option.bind (v43) fun a44 => Option.bind (q_aI g a44 (x2 - (1 : Int32))) fun v45 => Option.bind (q_div (x4 * x7) x5) fun v46 => Option.bind (q_fR 12 46 g x0) fun v47 => Option.bind (v47) fun a48 => Option.bind (q_aI g a48 (x2 - (1 : Int32))) fun v49 => Option.bind (q_fR 12 46 g x0) fun v50 => Option.bind (v50) fun a51 => Option.bind (q_aI g a51 x2) fun v52 => Option.bind (q_fR 12 46 g x0) fun v53 => Option.bind (v53) fun a54 => Option.bind (q_aI g a54 (x2 - (1 : Int32))) fun v55 => Option.bind (q_div ((v52 - v55) * x7) x5) fun v56 => Option.bind (q_ob 12 g x0) fun u57 => Option.bind (fX12_dab g x0 (v41 + v42) (v45 + v46) (v49 + v56)) fun v58 => Option.bind (q_fI 12 38 v58 x0) fun v59 => some (.inl (x7, x7 + v59, v58)))
theorem pbX12_dabs_114 {d : Nat} {Q : ps_Rs → ps_G → Prop}  {x0 : Nat} {x1 : Int32} {x2 : Int32} {x3 : Int32} {x4 : Int32} {x5 : Int32} {x6 : Int32} {x7 : Int32} {g : ps_G} {x : (Int32 × Int32 × ps_G) ⊕ (Int32 × ps_G)} (h : bX12_dabs_114 x0 x1 x2 x3 x4 x5 x6 x7 g = some x) (hh : ∀ s' : Int32 × Int32 × ps_G, x = .inl s' → ps_At mX12_dabs (d + 2) 114 [(0, .ref x0), (1, .int x1), (2, .int x2), (3, .int x3), (4, .int x4), (5, .int x5), (6, .int s'.1), (7, .int s'.2.1)] [] s'.2.2 Q) (he : ∀ r' : Int32 × ps_G, x = .inr r' → ps_At mX12_dabs (d + 2) 204 [(0, .ref x0), (1, .int x1), (2, .int x2), (5, .int x5), (6, .int r'.1)] [] r'.2 Q) : ps_At mX12_dabs (d + 2) 114 [(0, .ref x0), (1, .int x1), (2, .int x2), (3, .int x3), (4, .int x4), (5, .int x5), (6, .int x6), (7, .int x7)] [] g Q := by
  unfold bX12_dabs_114 at h
  refine sX12_dabs_114 ?_
  refine And.intro (fun hc37 => ?_) (fun hc37 => ?_)
  · replace h := q_ifp (hc37) h
    exact ps_weak (he (x6, g) (Option.some.inj h).symm) ⟨rfl, rfl, rfl, rfl, rfl, trivial⟩
  · replace h := q_ifn (hc37) h
    replace h := q_be h
    obtain ⟨v39, hv, h⟩ := h
    replace hv := q_fR_e hv
    obtain ⟨_, cv39, dv39⟩ := hv
    replace h := q_be h
    obtain ⟨a40, ea40, h⟩ := h
    subst ea40
    replace h := q_be h
    obtain ⟨v41, hv, h⟩ := h
    replace hv := q_aI_e hv
    obtain ⟨_, _, cv41, iv41, yv41⟩ := hv
    replace h := q_be h
    obtain ⟨v42, hv, h⟩ := h
    replace hv := q_div_e hv
    obtain ⟨zv42, yv42⟩ := hv
    replace h := q_be h
    obtain ⟨v43, hv, h⟩ := h
    replace hv := q_fR_e hv
    obtain ⟨_, cv43, dv43⟩ := hv
    replace h := q_be h
    obtain ⟨a44, ea44, h⟩ := h
    subst ea44
    replace h := q_be h
    obtain ⟨v45, hv, h⟩ := h
    replace hv := q_aI_e hv
    obtain ⟨_, _, cv45, iv45, yv45⟩ := hv
    replace h := q_be h
    obtain ⟨v46, hv, h⟩ := h
    replace hv := q_div_e hv
    obtain ⟨zv46, yv46⟩ := hv
    replace h := q_be h
    obtain ⟨v47, hv, h⟩ := h
    replace hv := q_fR_e hv
    obtain ⟨_, cv47, dv47⟩ := hv
    replace h := q_be h
    obtain ⟨a48, ea48, h⟩ := h
    subst ea48
    replace h := q_be h
    obtain ⟨v49, hv, h⟩ := h
    replace hv := q_aI_e hv
    obtain ⟨_, _, cv49, iv49, yv49⟩ := hv
    refine ⟨⟨some _, rfl⟩, ⟨some _, rfl⟩, _, _, cv39, dv39, _, _, cv41, iv41, _, yv41, zv42, _, yv42, ⟨some _, rfl⟩, _, _, cv43, dv43, _, _, cv45, iv45, _, yv45, zv46, _, yv46, ⟨some _, rfl⟩, _, _, cv47, dv47, _, _, cv49, iv49, _, yv49, ⟨some _, rfl⟩, ?_⟩
    replace h := q_be h
    obtain ⟨v50, hv, h⟩ := h
    replace hv := q_fR_e hv
    obtain ⟨_, cv50, dv50⟩ := hv
    replace h := q_be h
    obtain ⟨a51, ea51, h⟩ := h
    subst ea51
    replace h := q_be h
    obtain ⟨v52, hv, h⟩ := h
    replace hv := q_aI_e hv
    obtain ⟨_, _, cv52, iv52, yv52⟩ := hv
    replace h := q_be h
    obtain ⟨v53, hv, h⟩ := h
    replace hv := q_fR_e hv
    obtain ⟨_, cv53, dv53⟩ := hv
    replace h := q_be h
    obtain ⟨a54, ea54, h⟩ := h
    subst ea54
    replace h := q_be h
    obtain ⟨v55, hv, h⟩ := h
    replace hv := q_aI_e hv
    obtain ⟨_, _, cv55, iv55, yv55⟩ := hv
    replace h := q_be h
    obtain ⟨v56, hv, h⟩ := h
    replace hv := q_div_e hv
    obtain ⟨zv56, yv56⟩ := hv
    replace h := q_be h
    obtain ⟨u57, hv, h⟩ := h
    replace hv := q_ob_e hv
    obtain ⟨_, cu57⟩ := hv
    replace h := q_be h
    obtain ⟨v58, hv, h⟩ := h
    refine ⟨_, _, cv50, dv50, _, _, cv52, iv52, _, yv52, ⟨some _, rfl⟩, _, _, cv53, dv53, _, _, cv55, iv55, _, yv55, zv56, _, yv56, ⟨_, cu57⟩, ?_⟩
    refine rX12_dab hv ?_
    replace h := q_be h
    obtain ⟨v59, hv, h⟩ := h
    replace hv := q_fI_e hv
    obtain ⟨_, cv59, dv59⟩ := hv
    refine ⟨by decide, ⟨some _, rfl⟩, _, _, cv59, dv59, by decide, ?_⟩
    exact ps_weak (hh (x7, x7 + v59, v58) (Option.some.inj h).symm) ⟨rfl, rfl, rfl, rfl, rfl, rfl, rfl, rfl, trivial⟩
noncomputable def bX12_dabs_48 (x0 : Nat) (x1 : Int32) (x2 : Int32) (g : ps_G) : Option ((Int32 × Int32 × ps_G) ⊕ (ps_G)) := Option.bind (q_fI 12 43 g x0) fun v20 => if v20 ≤ x2 then (some (.inr g)) else (Option.bind (q_fR 12 44 g x0) fun v23 => Option.bind (v23) fun a24 => Option.bind (q_aI g a24 x2) fun v25 => Option.bind (q_fR 12 44 g x0) fun v26 => Option.bind (v26) fun a27 => Option.bind (q_aI g a27 (x2 - (1 : Int32))) fun v28 => Option.bind (q_fR 12 45 g x0) fun v29 => Option.bind (v29) fun a30 => Option.bind (q_aI g a30 x2) fun v31 => Option.bind (q_fR 12 45 g x0) fun v32 => Option.bind (v32) fun a33 => Option.bind (q_aI g a33 (x2 - (1 : Int32))) fun v34 => Option.bind (fX12_root g (((v25 - v28) * (v25 - v28)) + ((v31 - v34) * (v31 - v34)))) fun v35 => Option.bind (q_fI 12 38 g x0) fun v36 => Option.bind (q_lp (fun s => bX12_dabs_114 x0 x1 x2 (v25 - v28) (v31 - v34) v35 s.1 s.2.1 s.2.2) ((-1 : Int32), v36 - x1, g)) fun s62 => some (.inl ((if 0 ≤ s62.1 then v35 - s62.1 else x1 + v35), x2 + (1 : Int32), s62.2)))
theorem pbX12_dabs_48 {d : Nat} {Q : ps_Rs → ps_G → Prop}  {x0 : Nat} {x1 : Int32} {x2 : Int32} {g : ps_G} {x : (Int32 × Int32 × ps_G) ⊕ (ps_G)} (h : bX12_dabs_48 x0 x1 x2 g = some x) (hh : ∀ s' : Int32 × Int32 × ps_G, x = .inl s' → ps_At mX12_dabs (d + 2) 48 [(0, .ref x0), (1, .int s'.1), (2, .int s'.2.1)] [] s'.2.2 Q) (he : ∀ r' : ps_G, x = .inr r' → ps_At mX12_dabs (d + 2) 228 [] [] r' Q) : ps_At mX12_dabs (d + 2) 48 [(0, .ref x0), (1, .int x1), (2, .int x2)] [] g Q := by
  unfold bX12_dabs_48 at h
  refine sX12_dabs_48 ?_
  replace h := q_be h
  obtain ⟨v20, hv, h⟩ := h
  replace hv := q_fI_e hv
  obtain ⟨_, cv20, dv20⟩ := hv
  refine ⟨⟨some _, rfl⟩, _, _, cv20, dv20, ?_⟩
  refine And.intro (fun hc21 => ?_) (fun hc21 => ?_)
  · replace h := q_ifp (hc21) h
    exact ps_weak (he g (Option.some.inj h).symm) trivial
  · replace h := q_ifn (hc21) h
    replace h := q_be h
    obtain ⟨v23, hv, h⟩ := h
    replace hv := q_fR_e hv
    obtain ⟨_, cv23, dv23⟩ := hv
    replace h := q_be h
    obtain ⟨a24, ea24, h⟩ := h
    subst ea24
    replace h := q_be h
    obtain ⟨v25, hv, h⟩ := h
    replace hv := q_aI_e hv
    obtain ⟨_, _, cv25, iv25, yv25⟩ := hv
    replace h := q_be h
    obtain ⟨v26, hv, h⟩ := h
    replace hv := q_fR_e hv
    obtain ⟨_, cv26, dv26⟩ := hv
    replace h := q_be h
    obtain ⟨a27, ea27, h⟩ := h
    subst ea27
    replace h := q_be h
    obtain ⟨v28, hv, h⟩ := h
    replace hv := q_aI_e hv
    obtain ⟨_, _, cv28, iv28, yv28⟩ := hv
    replace h := q_be h
    obtain ⟨v29, hv, h⟩ := h
    replace hv := q_fR_e hv
    obtain ⟨_, cv29, dv29⟩ := hv
    replace h := q_be h
    obtain ⟨a30, ea30, h⟩ := h
    subst ea30
    replace h := q_be h
    obtain ⟨v31, hv, h⟩ := h
    replace hv := q_aI_e hv
    obtain ⟨_, _, cv31, iv31, yv31⟩ := hv
    replace h := q_be h
    obtain ⟨v32, hv, h⟩ := h
    replace hv := q_fR_e hv
    obtain ⟨_, cv32, dv32⟩ := hv
    replace h := q_be h
    obtain ⟨a33, ea33, h⟩ := h
    subst ea33
    replace h := q_be h
    obtain ⟨v34, hv, h⟩ := h
    replace hv := q_aI_e hv
    obtain ⟨_, _, cv34, iv34, yv34⟩ := hv
    refine ⟨⟨some _, rfl⟩, _, _, cv23, dv23, _, _, cv25, iv25, _, yv25, ⟨some _, rfl⟩, _, _, cv26, dv26, _, _, cv28, iv28, _, yv28, by decide, ⟨some _, rfl⟩, _, _, cv29, dv29, _, _, cv31, iv31, _, yv31, ⟨some _, rfl⟩, _, _, cv32, dv32, _, _, cv34, iv34, _, yv34, ?_⟩
    replace h := q_be h
    obtain ⟨v35, hv, h⟩ := h
    refine ⟨by decide, ?_⟩
    refine rX12_root hv ?_
    replace h := q_be h
    obtain ⟨v36, hv, h⟩ := h
    replace hv := q_fI_e hv
    obtain ⟨_, cv36, dv36⟩ := hv
    refine ⟨by decide, by decide, ⟨some _, rfl⟩, _, _, cv36, dv36, by decide, ?_⟩
    replace h := q_be h
    obtain ⟨s62, hl, h⟩ := h
    refine ps_weak (q_lp_ok hl (fun s => ps_At mX12_dabs (d + 2) 114 [(0, .ref x0), (1, .int x1), (2, .int x2), (3, .int (v25 - v28)), (4, .int (v31 - v34)), (5, .int v35), (6, .int s.1), (7, .int s.2.1)] [] s.2.2 Q) (fun r => ps_At mX12_dabs (d + 2) 204 [(0, .ref x0), (1, .int x1), (2, .int x2), (5, .int v35), (6, .int r.1)] [] r.2 Q) (fun s x hb hh he => pbX12_dabs_114 hb hh he) ?_) ⟨rfl, rfl, rfl, rfl, rfl, rfl, rfl, rfl, trivial⟩
    refine (?_ : ps_At mX12_dabs (d + 2) 204 [(0, .ref x0), (1, .int x1), (2, .int x2), (5, .int v35), (6, .int s62.1)] [] s62.2 Q)
    refine sX12_dabs_204 ?_
    have kJ65 : ∀ w64 : Int32, w64 = (if 0 ≤ s62.1 then v35 - s62.1 else x1 + v35) → ps_At mX12_dabs (d + 2) 221 [(0, .ref x0), (2, .int x2)] [.int w64] s62.2 Q := by
      rintro _ rfl
      refine sX12_dabs_221 ?_
      refine ⟨by decide, by decide, ?_⟩
      exact ps_weak (hh ((if 0 ≤ s62.1 then v35 - s62.1 else x1 + v35), x2 + (1 : Int32), s62.2) (Option.some.inj h).symm) ⟨rfl, rfl, rfl, trivial⟩
    refine And.intro (fun hc63 => ?_) (fun hc63 => ?_)
    · refine sX12_dabs_216 ?_
      exact ps_weak (kJ65 _ (if_pos (hc63)).symm) ⟨rfl, rfl, trivial⟩
    · exact ps_weak (kJ65 _ (if_neg (hc63)).symm) ⟨rfl, rfl, trivial⟩
noncomputable def fX12_dabs (g : ps_G) (x0 : Nat) : Option (ps_G) := Option.bind (q_lp (fun s => bX12_dabs_2 x0 s.1 s.2) ((0 : Int32), g)) fun s8 => Option.bind (q_fR 12 44 s8 x0) fun v9 => Option.bind (v9) fun a10 => Option.bind (q_aI s8 a10 (0 : Int32)) fun v11 => Option.bind (q_fR 12 45 s8 x0) fun v12 => Option.bind (v12) fun a13 => Option.bind (q_aI s8 a13 (0 : Int32)) fun v14 => Option.bind (q_fR 12 46 s8 x0) fun v15 => Option.bind (v15) fun a16 => Option.bind (q_aI s8 a16 (0 : Int32)) fun v17 => Option.bind (q_ob 12 s8 x0) fun u18 => Option.bind (fX12_dab s8 x0 v11 v14 v17) fun v19 => Option.bind (q_lp (fun s => bX12_dabs_48 x0 s.1 s.2.1 s.2.2) ((0 : Int32), (1 : Int32), v19)) fun s68 => some s68
theorem rX12_dabs {d : Nat} {Q : ps_Rs → ps_G → Prop} {g : ps_G} {x0 : Nat} {r : ps_G} (h : fX12_dabs g x0 = some r) (hk : Q (.inl none) r) : ps_Ok mX12_dabs (d + 2) [.ref x0] g Q := by
  unfold fX12_dabs at h
  refine sX12_dabs_0 ?_
  refine ⟨by decide, ?_⟩
  replace h := q_be h
  obtain ⟨s8, hl, h⟩ := h
  refine ps_weak (q_lp_ok hl (fun s => ps_At mX12_dabs (d + 2) 2 [(0, .ref x0), (1, .int s.1)] [] s.2 Q) (fun r => ps_At mX12_dabs (d + 2) 22 [(0, .ref x0)] [] r Q) (fun s x hb hh he => pbX12_dabs_2 hb hh he) ?_) ⟨rfl, rfl, trivial⟩
  refine (?_ : ps_At mX12_dabs (d + 2) 22 [(0, .ref x0)] [] s8 Q)
  refine sX12_dabs_22 ?_
  replace h := q_be h
  obtain ⟨v9, hv, h⟩ := h
  replace hv := q_fR_e hv
  obtain ⟨_, cv9, dv9⟩ := hv
  replace h := q_be h
  obtain ⟨a10, ea10, h⟩ := h
  subst ea10
  replace h := q_be h
  obtain ⟨v11, hv, h⟩ := h
  replace hv := q_aI_e hv
  obtain ⟨_, _, cv11, iv11, yv11⟩ := hv
  replace h := q_be h
  obtain ⟨v12, hv, h⟩ := h
  replace hv := q_fR_e hv
  obtain ⟨_, cv12, dv12⟩ := hv
  replace h := q_be h
  obtain ⟨a13, ea13, h⟩ := h
  subst ea13
  replace h := q_be h
  obtain ⟨v14, hv, h⟩ := h
  replace hv := q_aI_e hv
  obtain ⟨_, _, cv14, iv14, yv14⟩ := hv
  replace h := q_be h
  obtain ⟨v15, hv, h⟩ := h
  replace hv := q_fR_e hv
  obtain ⟨_, cv15, dv15⟩ := hv
  replace h := q_be h
  obtain ⟨a16, ea16, h⟩ := h
  subst ea16
  replace h := q_be h
  obtain ⟨v17, hv, h⟩ := h
  replace hv := q_aI_e hv
  obtain ⟨_, _, cv17, iv17, yv17⟩ := hv
  replace h := q_be h
  obtain ⟨u18, hv, h⟩ := h
  replace hv := q_ob_e hv
  obtain ⟨_, cu18⟩ := hv
  replace h := q_be h
  obtain ⟨v19, hv, h⟩ := h
  refine ⟨⟨some _, rfl⟩, ⟨some _, rfl⟩, _, _, cv9, dv9, _, _, cv11, iv11, _, yv11, ⟨some _, rfl⟩, _, _, cv12, dv12, _, _, cv14, iv14, _, yv14, ⟨some _, rfl⟩, _, _, cv15, dv15, _, _, cv17, iv17, _, yv17, ⟨_, cu18⟩, ?_⟩
  refine rX12_dab hv ?_
  refine ⟨by decide, by decide, ?_⟩
  replace h := q_be h
  obtain ⟨s68, hl, h⟩ := h
  refine ps_weak (q_lp_ok hl (fun s => ps_At mX12_dabs (d + 2) 48 [(0, .ref x0), (1, .int s.1), (2, .int s.2.1)] [] s.2.2 Q) (fun r => ps_At mX12_dabs (d + 2) 228 [] [] r Q) (fun s x hb hh he => pbX12_dabs_48 hb hh he) ?_) ⟨rfl, rfl, rfl, trivial⟩
  refine (?_ : ps_At mX12_dabs (d + 2) 228 [] [] s68 Q)
  refine sX12_dabs_228 ?_
  cases h
  exact ⟨rfl, rfl, hk⟩
noncomputable def bX12_stroke_50 (x0 : Nat) (x1 : Int32) (x2 : Int32) (x3 : Int32) (g : ps_G) : Option ((Int32 × ps_G) ⊕ (ps_G)) := if (576 : Int32) ≤ x3 then (some (.inr g)) else (Option.bind (q_fR 12 18 g x0) fun v13 => Option.bind (v13) fun a14 => Option.bind (q_fR 12 35 g x0) fun v15 => Option.bind (v15) fun a16 => Option.bind (q_aI g a16 x3) fun v17 => Option.bind (q_wI g a14 x3 v17) fun g18 => some (.inl (x3 + (1 : Int32), g18)))
theorem pbX12_stroke_50 {d : Nat} {Q : ps_Rs → ps_G → Prop}  {x0 : Nat} {x1 : Int32} {x2 : Int32} {x3 : Int32} {g : ps_G} {x : (Int32 × ps_G) ⊕ (ps_G)} (h : bX12_stroke_50 x0 x1 x2 x3 g = some x) (hh : ∀ s' : Int32 × ps_G, x = .inl s' → ps_At mX12_stroke (d + 6) 50 [(0, .ref x0), (1, .int x1), (2, .int x2), (3, .int s'.1)] [] s'.2 Q) (he : ∀ r' : ps_G, x = .inr r' → ps_At mX12_stroke (d + 6) 75 [(0, .ref x0), (1, .int x1), (2, .int x2)] [] r' Q) : ps_At mX12_stroke (d + 6) 50 [(0, .ref x0), (1, .int x1), (2, .int x2), (3, .int x3)] [] g Q := by
  unfold bX12_stroke_50 at h
  refine sX12_stroke_50 ?_
  refine And.intro (fun hc11 => ?_) (fun hc11 => ?_)
  · replace h := q_ifp (hc11) h
    exact ps_weak (he g (Option.some.inj h).symm) ⟨rfl, rfl, rfl, trivial⟩
  · replace h := q_ifn (hc11) h
    replace h := q_be h
    obtain ⟨v13, hv, h⟩ := h
    replace hv := q_fR_e hv
    obtain ⟨_, cv13, dv13⟩ := hv
    replace h := q_be h
    obtain ⟨a14, ea14, h⟩ := h
    subst ea14
    replace h := q_be h
    obtain ⟨v15, hv, h⟩ := h
    replace hv := q_fR_e hv
    obtain ⟨_, cv15, dv15⟩ := hv
    replace h := q_be h
    obtain ⟨a16, ea16, h⟩ := h
    subst ea16
    replace h := q_be h
    obtain ⟨v17, hv, h⟩ := h
    replace hv := q_aI_e hv
    obtain ⟨_, _, cv17, iv17, yv17⟩ := hv
    replace h := q_be h
    obtain ⟨g18, hv, h⟩ := h
    replace hv := q_wI_e hv
    obtain ⟨_, _, cg18, pg18, ig18, yg18⟩ := hv
    refine ⟨⟨some _, rfl⟩, _, _, cv13, dv13, ⟨some _, rfl⟩, _, _, cv15, dv15, _, _, cv17, iv17, _, yv17, _, _, cg18, pg18, ig18, _, yg18, by decide, ?_⟩
    exact ps_weak (hh (x3 + (1 : Int32), g18) (Option.some.inj h).symm) ⟨rfl, rfl, rfl, rfl, trivial⟩
noncomputable def jX12_stroke_276_97 (g : ps_G) (x0 : Nat) (x1 : Int32) (x2 : Int32) (x3 : Int32) (x4 : Int32) : Option ((Int32 × ps_G) ⊕ (ps_G)) := some (.inl (x4 + (1 : Int32), g))
theorem pjX12_stroke_276_97 {d : Nat} {Q : ps_Rs → ps_G → Prop} {g : ps_G} {x0 : Nat} {x1 : Int32} {x2 : Int32} {x3 : Int32} {x4 : Int32} {x : (Int32 × ps_G) ⊕ (ps_G)} (h : jX12_stroke_276_97 g x0 x1 x2 x3 x4 = some x) (hh : ∀ s' : Int32 × ps_G, x = .inl s' → ps_At mX12_stroke (d + 6) 97 [(0, .ref x0), (1, .int x1), (2, .int x2), (3, .int x3), (4, .int s'.1)] [] s'.2 Q) (he : ∀ r' : ps_G, x = .inr r' → ps_At mX12_stroke (d + 6) 282 [(0, .ref x0), (1, .int x1), (2, .int x2), (3, .int x3)] [] r' Q) : ps_At mX12_stroke (d + 6) 276 [(0, .ref x0), (1, .int x1), (2, .int x2), (3, .int x3), (4, .int x4)] [] g Q := by
  unfold jX12_stroke_276_97 at h
  refine sX12_stroke_276 ?_
  refine ⟨by decide, ?_⟩
  exact ps_weak (hh (x4 + (1 : Int32), g) (Option.some.inj h).symm) ⟨rfl, rfl, rfl, rfl, rfl, trivial⟩
noncomputable def jX12_stroke_238_97 (g : ps_G) (x0 : Nat) (x1 : Int32) (x2 : Int32) (x3 : Int32) (x4 : Int32) (x6 : Int32) (k0 : Nat) (k1 : Int32) (k2 : Int32) (k3 : Int32) : Option ((Int32 × ps_G) ⊕ (ps_G)) := Option.bind (q_ob 12 g k0) fun u61 => Option.bind (fX12_putOver g k0 k1 k2 k3 x6) fun v62 => jX12_stroke_276_97 v62 x0 x1 x2 x3 x4
theorem pjX12_stroke_238_97 {d : Nat} {Q : ps_Rs → ps_G → Prop} {g : ps_G} {x0 : Nat} {x1 : Int32} {x2 : Int32} {x3 : Int32} {x4 : Int32} {x6 : Int32} {k0 : Nat} {k1 : Int32} {k2 : Int32} {k3 : Int32} {x : (Int32 × ps_G) ⊕ (ps_G)} (h : jX12_stroke_238_97 g x0 x1 x2 x3 x4 x6 k0 k1 k2 k3 = some x) (hh : ∀ s' : Int32 × ps_G, x = .inl s' → ps_At mX12_stroke (d + 6) 97 [(0, .ref x0), (1, .int x1), (2, .int x2), (3, .int x3), (4, .int s'.1)] [] s'.2 Q) (he : ∀ r' : ps_G, x = .inr r' → ps_At mX12_stroke (d + 6) 282 [(0, .ref x0), (1, .int x1), (2, .int x2), (3, .int x3)] [] r' Q) : ps_At mX12_stroke (d + 6) 238 [(0, .ref x0), (1, .int x1), (2, .int x2), (3, .int x3), (4, .int x4), (6, .int x6)] [.int k3, .int k2, .int k1, .ref k0] g Q := by
  unfold jX12_stroke_238_97 at h
  refine sX12_stroke_238 ?_
  replace h := q_be h
  obtain ⟨u61, hv, h⟩ := h
  replace hv := q_ob_e hv
  obtain ⟨_, cu61⟩ := hv
  replace h := q_be h
  obtain ⟨v62, hv, h⟩ := h
  refine ⟨⟨_, cu61⟩, ?_⟩
  refine rX12_putOver hv ?_
  exact ps_weak (pjX12_stroke_276_97 h hh he) ⟨rfl, rfl, rfl, rfl, rfl, trivial⟩
noncomputable def bX12_stroke_97 (x0 : Nat) (x1 : Int32) (x2 : Int32) (x3 : Int32) (x4 : Int32) (g : ps_G) : Option ((Int32 × ps_G) ⊕ (ps_G)) := Option.bind (q_fI 12 13 g x0) fun v27 => if v27 ≤ x4 then (some (.inr g)) else (Option.bind (q_ob 12 g x0) fun u30 => Option.bind (fX12_at g x0 x4 x3) fun v31 => Option.bind (q_fR 12 47 g x0) fun v32 => Option.bind (v32) fun a33 => Option.bind (q_aI g a33 v31) fun v34 => Option.bind (q_fI 12 40 g x0) fun v35 => Option.bind (q_ob 12 g x0) fun u36 => Option.bind (fX12_shiftedChoice g x0 x1 x4 x3) fun v37 => if ¬ x2 = 0 then (if ¬ x2 = (1 : Int32) then (if ¬ x2 = (2 : Int32) then (Option.bind (q_fR 12 35 g x0) fun v47 => Option.bind (v47) fun a48 => Option.bind (q_aI g a48 v31) fun v49 => Option.bind (q_ob 12 g x0) fun u50 => Option.bind (fX12_soft g x0 (1 : Int32) x4 x3) fun v51 => Option.bind (fX12_mixed g v49 v51 (fX12_mul (fX12_mul v34 v35) v37)) fun v52 => Option.bind (q_ob 12 g x0) fun u53 => Option.bind (fX12_put g x0 x1 ((17 : Int32) + v31) v52) fun v54 => jX12_stroke_276_97 v54 x0 x1 x2 x3 x4) else (Option.bind (q_fI 12 41 g x0) fun v55 => Option.bind (q_fI 12 42 g x0) fun v56 => Option.bind (q_ob 12 g x0) fun u57 => Option.bind (fX12_isPlace g x0 (x4 + v55) (x3 + v56)) fun v58 => if v58 = 0 then (jX12_stroke_238_97 g x0 x1 x2 x3 x4 (fX12_mul (fX12_mul v34 v35) v37) x0 x1 v31 (0 : Int32)) else (Option.bind (q_fR 12 35 g x0) fun v63 => Option.bind (v63) fun a64 => Option.bind (q_fI 12 41 g x0) fun v65 => Option.bind (q_fI 12 42 g x0) fun v66 => Option.bind (q_ob 12 g x0) fun u67 => Option.bind (fX12_at g x0 (x4 + v65) (x3 + v66)) fun v68 => Option.bind (q_aI g a64 v68) fun v69 => jX12_stroke_238_97 g x0 x1 x2 x3 x4 (fX12_mul (fX12_mul v34 v35) v37) x0 x1 v31 v69))) else (Option.bind (q_fI 12 34 g x0) fun v74 => Option.bind (q_ob 12 g x0) fun u75 => Option.bind (fX12_erase g x0 x1 v31 v74 (fX12_mul (fX12_mul v34 v35) v37)) fun v76 => jX12_stroke_276_97 v76 x0 x1 x2 x3 x4)) else (Option.bind (q_fI 12 34 g x0) fun v79 => Option.bind (q_ob 12 g x0) fun u80 => Option.bind (fX12_putOver g x0 x1 v31 v79 (fX12_mul (fX12_mul v34 v35) v37)) fun v81 => jX12_stroke_276_97 v81 x0 x1 x2 x3 x4))
theorem pbX12_stroke_97 {d : Nat} {Q : ps_Rs → ps_G → Prop}  {x0 : Nat} {x1 : Int32} {x2 : Int32} {x3 : Int32} {x4 : Int32} {g : ps_G} {x : (Int32 × ps_G) ⊕ (ps_G)} (h : bX12_stroke_97 x0 x1 x2 x3 x4 g = some x) (hh : ∀ s' : Int32 × ps_G, x = .inl s' → ps_At mX12_stroke (d + 6) 97 [(0, .ref x0), (1, .int x1), (2, .int x2), (3, .int x3), (4, .int s'.1)] [] s'.2 Q) (he : ∀ r' : ps_G, x = .inr r' → ps_At mX12_stroke (d + 6) 282 [(0, .ref x0), (1, .int x1), (2, .int x2), (3, .int x3)] [] r' Q) : ps_At mX12_stroke (d + 6) 97 [(0, .ref x0), (1, .int x1), (2, .int x2), (3, .int x3), (4, .int x4)] [] g Q := by
  unfold bX12_stroke_97 at h
  refine sX12_stroke_97 ?_
  replace h := q_be h
  obtain ⟨v27, hv, h⟩ := h
  replace hv := q_fI_e hv
  obtain ⟨_, cv27, dv27⟩ := hv
  refine ⟨⟨some _, rfl⟩, _, _, cv27, dv27, ?_⟩
  refine And.intro (fun hc28 => ?_) (fun hc28 => ?_)
  · replace h := q_ifp (hc28) h
    exact ps_weak (he g (Option.some.inj h).symm) ⟨rfl, rfl, rfl, rfl, trivial⟩
  · replace h := q_ifn (hc28) h
    replace h := q_be h
    obtain ⟨u30, hv, h⟩ := h
    replace hv := q_ob_e hv
    obtain ⟨_, cu30⟩ := hv
    replace h := q_be h
    obtain ⟨v31, hv, h⟩ := h
    refine ⟨⟨some _, rfl⟩, ⟨_, cu30⟩, ?_⟩
    refine rX12_at hv ?_
    replace h := q_be h
    obtain ⟨v32, hv, h⟩ := h
    replace hv := q_fR_e hv
    obtain ⟨_, cv32, dv32⟩ := hv
    replace h := q_be h
    obtain ⟨a33, ea33, h⟩ := h
    subst ea33
    replace h := q_be h
    obtain ⟨v34, hv, h⟩ := h
    replace hv := q_aI_e hv
    obtain ⟨_, _, cv34, iv34, yv34⟩ := hv
    replace h := q_be h
    obtain ⟨v35, hv, h⟩ := h
    replace hv := q_fI_e hv
    obtain ⟨_, cv35, dv35⟩ := hv
    refine ⟨by decide, ⟨some _, rfl⟩, _, _, cv32, dv32, _, _, cv34, iv34, _, yv34, ⟨some _, rfl⟩, _, _, cv35, dv35, ?_⟩
    refine rX12_mul rfl ?_
    replace h := q_be h
    obtain ⟨u36, hv, h⟩ := h
    replace hv := q_ob_e hv
    obtain ⟨_, cu36⟩ := hv
    replace h := q_be h
    obtain ⟨v37, hv, h⟩ := h
    refine ⟨⟨some _, rfl⟩, ⟨_, cu36⟩, ?_⟩
    refine rX12_shiftedChoice hv ?_
    refine rX12_mul rfl ?_
    refine ⟨by decide, ?_⟩
    refine And.intro (fun hc38 => ?_) (fun hc38 => ?_)
    · replace h := q_ifp (hc38) h
      refine sX12_stroke_162 ?_
      refine And.intro (fun hc42 => ?_) (fun hc42 => ?_)
      · replace h := q_ifp (hc42) h
        refine sX12_stroke_183 ?_
        refine And.intro (fun hc45 => ?_) (fun hc45 => ?_)
        · replace h := q_ifp (hc45) h
          refine sX12_stroke_246 ?_
          replace h := q_be h
          obtain ⟨v47, hv, h⟩ := h
          replace hv := q_fR_e hv
          obtain ⟨_, cv47, dv47⟩ := hv
          replace h := q_be h
          obtain ⟨a48, ea48, h⟩ := h
          subst ea48
          replace h := q_be h
          obtain ⟨v49, hv, h⟩ := h
          replace hv := q_aI_e hv
          obtain ⟨_, _, cv49, iv49, yv49⟩ := hv
          replace h := q_be h
          obtain ⟨u50, hv, h⟩ := h
          replace hv := q_ob_e hv
          obtain ⟨_, cu50⟩ := hv
          replace h := q_be h
          obtain ⟨v51, hv, h⟩ := h
          refine ⟨⟨some _, rfl⟩, ⟨some _, rfl⟩, _, _, cv47, dv47, _, _, cv49, iv49, _, yv49, ⟨some _, rfl⟩, ⟨_, cu50⟩, ?_⟩
          refine rX12_soft hv ?_
          replace h := q_be h
          obtain ⟨v52, hv, h⟩ := h
          refine rX12_mixed hv ?_
          replace h := q_be h
          obtain ⟨u53, hv, h⟩ := h
          replace hv := q_ob_e hv
          obtain ⟨_, cu53⟩ := hv
          replace h := q_be h
          obtain ⟨v54, hv, h⟩ := h
          refine ⟨⟨_, cu53⟩, ?_⟩
          refine rX12_put hv ?_
          exact ps_weak (pjX12_stroke_276_97 h hh he) ⟨rfl, rfl, rfl, rfl, rfl, trivial⟩
        · replace h := q_ifn (hc45) h
          replace h := q_be h
          obtain ⟨v55, hv, h⟩ := h
          replace hv := q_fI_e hv
          obtain ⟨_, cv55, dv55⟩ := hv
          replace h := q_be h
          obtain ⟨v56, hv, h⟩ := h
          replace hv := q_fI_e hv
          obtain ⟨_, cv56, dv56⟩ := hv
          replace h := q_be h
          obtain ⟨u57, hv, h⟩ := h
          replace hv := q_ob_e hv
          obtain ⟨_, cu57⟩ := hv
          replace h := q_be h
          obtain ⟨v58, hv, h⟩ := h
          refine ⟨⟨some _, rfl⟩, ⟨some _, rfl⟩, ⟨some _, rfl⟩, _, _, cv55, dv55, ⟨some _, rfl⟩, _, _, cv56, dv56, ⟨_, cu57⟩, ?_⟩
          refine rX12_isPlace hv ?_
          refine And.intro (fun hc59 => ?_) (fun hc59 => ?_)
          · replace h := q_ifp (hc59) h
            refine sX12_stroke_237 ?_
            exact ps_weak (pjX12_stroke_238_97 h hh he) ⟨rfl, rfl, rfl, rfl, rfl, rfl, trivial⟩
          · replace h := q_ifn (hc59) h
            replace h := q_be h
            obtain ⟨v63, hv, h⟩ := h
            replace hv := q_fR_e hv
            obtain ⟨_, cv63, dv63⟩ := hv
            replace h := q_be h
            obtain ⟨a64, ea64, h⟩ := h
            subst ea64
            replace h := q_be h
            obtain ⟨v65, hv, h⟩ := h
            replace hv := q_fI_e hv
            obtain ⟨_, cv65, dv65⟩ := hv
            replace h := q_be h
            obtain ⟨v66, hv, h⟩ := h
            replace hv := q_fI_e hv
            obtain ⟨_, cv66, dv66⟩ := hv
            replace h := q_be h
            obtain ⟨u67, hv, h⟩ := h
            replace hv := q_ob_e hv
            obtain ⟨_, cu67⟩ := hv
            replace h := q_be h
            obtain ⟨v68, hv, h⟩ := h
            refine ⟨⟨some _, rfl⟩, _, _, cv63, dv63, ⟨some _, rfl⟩, ⟨some _, rfl⟩, _, _, cv65, dv65, ⟨some _, rfl⟩, _, _, cv66, dv66, ⟨_, cu67⟩, ?_⟩
            refine rX12_at hv ?_
            replace h := q_be h
            obtain ⟨v69, hv, h⟩ := h
            replace hv := q_aI_e hv
            obtain ⟨_, _, cv69, iv69, yv69⟩ := hv
            refine ⟨_, _, cv69, iv69, _, yv69, ?_⟩
            exact ps_weak (pjX12_stroke_238_97 h hh he) ⟨rfl, rfl, rfl, rfl, rfl, rfl, trivial⟩
      · replace h := q_ifn (hc42) h
        replace h := q_be h
        obtain ⟨v74, hv, h⟩ := h
        replace hv := q_fI_e hv
        obtain ⟨_, cv74, dv74⟩ := hv
        replace h := q_be h
        obtain ⟨u75, hv, h⟩ := h
        replace hv := q_ob_e hv
        obtain ⟨_, cu75⟩ := hv
        replace h := q_be h
        obtain ⟨v76, hv, h⟩ := h
        refine ⟨⟨some _, rfl⟩, ⟨some _, rfl⟩, _, _, cv74, dv74, ⟨_, cu75⟩, ?_⟩
        refine rX12_erase hv ?_
        exact ps_weak (pjX12_stroke_276_97 h hh he) ⟨rfl, rfl, rfl, rfl, rfl, trivial⟩
    · replace h := q_ifn (hc38) h
      replace h := q_be h
      obtain ⟨v79, hv, h⟩ := h
      replace hv := q_fI_e hv
      obtain ⟨_, cv79, dv79⟩ := hv
      replace h := q_be h
      obtain ⟨u80, hv, h⟩ := h
      replace hv := q_ob_e hv
      obtain ⟨_, cu80⟩ := hv
      replace h := q_be h
      obtain ⟨v81, hv, h⟩ := h
      refine ⟨⟨some _, rfl⟩, ⟨some _, rfl⟩, _, _, cv79, dv79, ⟨_, cu80⟩, ?_⟩
      refine rX12_putOver hv ?_
      exact ps_weak (pjX12_stroke_276_97 h hh he) ⟨rfl, rfl, rfl, rfl, rfl, trivial⟩
noncomputable def bX12_stroke_86 (x0 : Nat) (x1 : Int32) (x2 : Int32) (x3 : Int32) (g : ps_G) : Option ((Int32 × ps_G) ⊕ (ps_G)) := Option.bind (q_fI 12 14 g x0) fun v25 => if v25 ≤ x3 then (some (.inr g)) else (Option.bind (q_lp (fun s => bX12_stroke_97 x0 x1 x2 x3 s.1 s.2) ((0 : Int32), g)) fun s86 => some (.inl (x3 + (1 : Int32), s86)))
theorem pbX12_stroke_86 {d : Nat} {Q : ps_Rs → ps_G → Prop}  {x0 : Nat} {x1 : Int32} {x2 : Int32} {x3 : Int32} {g : ps_G} {x : (Int32 × ps_G) ⊕ (ps_G)} (h : bX12_stroke_86 x0 x1 x2 x3 g = some x) (hh : ∀ s' : Int32 × ps_G, x = .inl s' → ps_At mX12_stroke (d + 6) 86 [(0, .ref x0), (1, .int x1), (2, .int x2), (3, .int s'.1)] [] s'.2 Q) (he : ∀ r' : ps_G, x = .inr r' → ps_At mX12_stroke (d + 6) 288 [(0, .ref x0), (1, .int x1)] [] r' Q) : ps_At mX12_stroke (d + 6) 86 [(0, .ref x0), (1, .int x1), (2, .int x2), (3, .int x3)] [] g Q := by
  unfold bX12_stroke_86 at h
  refine sX12_stroke_86 ?_
  replace h := q_be h
  obtain ⟨v25, hv, h⟩ := h
  replace hv := q_fI_e hv
  obtain ⟨_, cv25, dv25⟩ := hv
  refine ⟨⟨some _, rfl⟩, _, _, cv25, dv25, ?_⟩
  refine And.intro (fun hc26 => ?_) (fun hc26 => ?_)
  · replace h := q_ifp (hc26) h
    exact ps_weak (he g (Option.some.inj h).symm) ⟨rfl, rfl, trivial⟩
  · replace h := q_ifn (hc26) h
    refine ⟨by decide, ?_⟩
    replace h := q_be h
    obtain ⟨s86, hl, h⟩ := h
    refine ps_weak (q_lp_ok hl (fun s => ps_At mX12_stroke (d + 6) 97 [(0, .ref x0), (1, .int x1), (2, .int x2), (3, .int x3), (4, .int s.1)] [] s.2 Q) (fun r => ps_At mX12_stroke (d + 6) 282 [(0, .ref x0), (1, .int x1), (2, .int x2), (3, .int x3)] [] r Q) (fun s x hb hh he => pbX12_stroke_97 hb hh he) ?_) ⟨rfl, rfl, rfl, rfl, rfl, trivial⟩
    refine (?_ : ps_At mX12_stroke (d + 6) 282 [(0, .ref x0), (1, .int x1), (2, .int x2), (3, .int x3)] [] s86 Q)
    refine sX12_stroke_282 ?_
    refine ⟨by decide, ?_⟩
    exact ps_weak (hh (x3 + (1 : Int32), s86) (Option.some.inj h).symm) ⟨rfl, rfl, rfl, rfl, trivial⟩
noncomputable def jX12_stroke_34 (g : ps_G) (x0 : Nat) (x1 : Int32) (x2 : Int32) : Option (Int32 × ps_G) := Option.bind (q_fI 12 0 g x0) fun v7 => if v7 ≤ 0 then (Option.bind (q_ob 12 g x0) fun u9 => Option.bind (fX12_begin g x0 x1) fun v10 => Option.bind (q_lp (fun s => bX12_stroke_50 x0 x1 x2 s.1 s.2) ((0 : Int32), v10)) fun s21 => Option.bind (q_ob 12 s21 x0) fun u22 => Option.bind (fX12_dabs s21 x0) fun v23 => Option.bind (q_sI 12 43 v23 x0 (0 : Int32)) fun g24 => Option.bind (q_lp (fun s => bX12_stroke_86 x0 x1 x2 s.1 s.2) ((0 : Int32), g24)) fun s89 => Option.bind (q_ob 12 s89 x0) fun u90 => q_b2 (fX12_changed s89 x0 x1) fun v91 g92 => some (v91, g92)) else (some ((0 : Int32), g))
theorem pjX12_stroke_34 {d : Nat} {Q : ps_Rs → ps_G → Prop} {g : ps_G} {x0 : Nat} {x1 : Int32} {x2 : Int32} {r : Int32 × ps_G} (h : jX12_stroke_34 g x0 x1 x2 = some r) (hk : Q (.inl (some (.int r.1))) r.2) : ps_At mX12_stroke (d + 6) 34 [(0, .ref x0), (1, .int x1), (2, .int x2)] [] g Q := by
  unfold jX12_stroke_34 at h
  refine sX12_stroke_34 ?_
  replace h := q_be h
  obtain ⟨v7, hv, h⟩ := h
  replace hv := q_fI_e hv
  obtain ⟨_, cv7, dv7⟩ := hv
  refine ⟨⟨some _, rfl⟩, _, _, cv7, dv7, ?_⟩
  refine And.intro (fun hc8 => ?_) (fun hc8 => ?_)
  · replace h := q_ifp (hc8) h
    refine sX12_stroke_43 ?_
    replace h := q_be h
    obtain ⟨u9, hv, h⟩ := h
    replace hv := q_ob_e hv
    obtain ⟨_, cu9⟩ := hv
    replace h := q_be h
    obtain ⟨v10, hv, h⟩ := h
    refine ⟨⟨some _, rfl⟩, ⟨_, cu9⟩, ?_⟩
    refine rX12_begin hv ?_
    refine ⟨by decide, ?_⟩
    replace h := q_be h
    obtain ⟨s21, hl, h⟩ := h
    refine ps_weak (q_lp_ok hl (fun s => ps_At mX12_stroke (d + 6) 50 [(0, .ref x0), (1, .int x1), (2, .int x2), (3, .int s.1)] [] s.2 Q) (fun r => ps_At mX12_stroke (d + 6) 75 [(0, .ref x0), (1, .int x1), (2, .int x2)] [] r Q) (fun s x hb hh he => pbX12_stroke_50 hb hh he) ?_) ⟨rfl, rfl, rfl, rfl, trivial⟩
    refine (?_ : ps_At mX12_stroke (d + 6) 75 [(0, .ref x0), (1, .int x1), (2, .int x2)] [] s21 Q)
    refine sX12_stroke_75 ?_
    replace h := q_be h
    obtain ⟨u22, hv, h⟩ := h
    replace hv := q_ob_e hv
    obtain ⟨_, cu22⟩ := hv
    replace h := q_be h
    obtain ⟨v23, hv, h⟩ := h
    refine ⟨⟨some _, rfl⟩, ⟨_, cu22⟩, ?_⟩
    refine rX12_dabs hv ?_
    replace h := q_be h
    obtain ⟨g24, hv, h⟩ := h
    replace hv := q_sI_e hv
    obtain ⟨_, cg24, dg24, yg24⟩ := hv
    refine ⟨⟨some _, rfl⟩, _, cg24, dg24, rfl, rfl, _, yg24, by decide, ?_⟩
    replace h := q_be h
    obtain ⟨s89, hl, h⟩ := h
    refine ps_weak (q_lp_ok hl (fun s => ps_At mX12_stroke (d + 6) 86 [(0, .ref x0), (1, .int x1), (2, .int x2), (3, .int s.1)] [] s.2 Q) (fun r => ps_At mX12_stroke (d + 6) 288 [(0, .ref x0), (1, .int x1)] [] r Q) (fun s x hb hh he => pbX12_stroke_86 hb hh he) ?_) ⟨rfl, rfl, rfl, rfl, trivial⟩
    refine (?_ : ps_At mX12_stroke (d + 6) 288 [(0, .ref x0), (1, .int x1)] [] s89 Q)
    refine sX12_stroke_288 ?_
    replace h := q_be h
    obtain ⟨u90, hv, h⟩ := h
    replace hv := q_ob_e hv
    obtain ⟨_, cu90⟩ := hv
    replace h := q_b2_e h
    obtain ⟨v91, g92, hv, h⟩ := h
    refine ⟨⟨some _, rfl⟩, ⟨_, cu90⟩, ?_⟩
    refine rX12_changed hv ?_
    cases h
    exact ⟨rfl, hk⟩
  · replace h := q_ifn (hc8) h
    cases h
    exact ⟨rfl, hk⟩
noncomputable def fX12_stroke (g : ps_G) (x0 : Nat) (x1 : Int32) (x2 : Int32) : Option (Int32 × ps_G) := Option.bind (q_ob 12 g x0) fun u1 => Option.bind (fX12_why g x0 x1 (fX12_in x2 (0 : Int32) (3 : Int32))) fun v2 => Option.bind (q_sI 12 0 g x0 v2) fun g3 => Option.bind (q_fI 12 0 g3 x0) fun v4 => if ¬ v4 = 0 then (jX12_stroke_34 g3 x0 x1 x2) else (Option.bind (q_fI 12 43 g3 x0) fun v95 => if ¬ v95 = 0 then (jX12_stroke_34 g3 x0 x1 x2) else (Option.bind (q_sI 12 0 g3 x0 (3 : Int32)) fun g98 => jX12_stroke_34 g98 x0 x1 x2))
theorem rX12_stroke {d : Nat} {Q : ps_Rs → ps_G → Prop} {g : ps_G} {x0 : Nat} {x1 : Int32} {x2 : Int32} {r : Int32 × ps_G} (h : fX12_stroke g x0 x1 x2 = some r) (hk : Q (.inl (some (.int r.1))) r.2) : ps_Ok mX12_stroke (d + 6) [.ref x0, .int x1, .int x2] g Q := by
  unfold fX12_stroke at h
  refine sX12_stroke_0 ?_
  refine ⟨⟨some _, rfl⟩, ⟨some _, rfl⟩, ?_⟩
  refine rX12_in rfl ?_
  replace h := q_be h
  obtain ⟨u1, hv, h⟩ := h
  replace hv := q_ob_e hv
  obtain ⟨_, cu1⟩ := hv
  replace h := q_be h
  obtain ⟨v2, hv, h⟩ := h
  refine ⟨⟨_, cu1⟩, ?_⟩
  refine rX12_why hv ?_
  replace h := q_be h
  obtain ⟨g3, hv, h⟩ := h
  replace hv := q_sI_e hv
  obtain ⟨_, cg3, dg3, yg3⟩ := hv
  replace h := q_be h
  obtain ⟨v4, hv, h⟩ := h
  replace hv := q_fI_e hv
  obtain ⟨_, cv4, dv4⟩ := hv
  refine ⟨_, cg3, dg3, rfl, rfl, _, yg3, ⟨some _, rfl⟩, _, _, cv4, dv4, ?_⟩
  refine And.intro (fun hc5 => ?_) (fun hc5 => ?_)
  · replace h := q_ifp (hc5) h
    exact ps_weak (pjX12_stroke_34 h hk) ⟨rfl, rfl, rfl, trivial⟩
  · replace h := q_ifn (hc5) h
    replace h := q_be h
    obtain ⟨v95, hv, h⟩ := h
    replace hv := q_fI_e hv
    obtain ⟨_, cv95, dv95⟩ := hv
    refine ⟨⟨some _, rfl⟩, _, _, cv95, dv95, ?_⟩
    refine And.intro (fun hc96 => ?_) (fun hc96 => ?_)
    · replace h := q_ifp (hc96) h
      exact ps_weak (pjX12_stroke_34 h hk) ⟨rfl, rfl, rfl, trivial⟩
    · replace h := q_ifn (hc96) h
      replace h := q_be h
      obtain ⟨g98, hv, h⟩ := h
      replace hv := q_sI_e hv
      obtain ⟨_, cg98, dg98, yg98⟩ := hv
      refine ⟨⟨some _, rfl⟩, _, cg98, dg98, rfl, rfl, _, yg98, ?_⟩
      exact ps_weak (pjX12_stroke_34 h hk) ⟨rfl, rfl, rfl, trivial⟩
noncomputable def bX12_filter_31 (x0 : Nat) (x1 : Int32) (x2 : Int32) (x3 : Int32) (x4 : Int32) (g : ps_G) : Option ((Int32 × ps_G) ⊕ (ps_G)) := if (576 : Int32) ≤ x4 then (some (.inr g)) else (Option.bind (q_fR 12 18 g x0) fun v10 => Option.bind (v10) fun a11 => Option.bind (q_fR 12 35 g x0) fun v12 => Option.bind (v12) fun a13 => Option.bind (q_aI g a13 x4) fun v14 => Option.bind (q_wI g a11 x4 v14) fun g15 => some (.inl (x4 + (1 : Int32), g15)))
theorem pbX12_filter_31 {d : Nat} {Q : ps_Rs → ps_G → Prop}  {x0 : Nat} {x1 : Int32} {x2 : Int32} {x3 : Int32} {x4 : Int32} {g : ps_G} {x : (Int32 × ps_G) ⊕ (ps_G)} (h : bX12_filter_31 x0 x1 x2 x3 x4 g = some x) (hh : ∀ s' : Int32 × ps_G, x = .inl s' → ps_At mX12_filter (d + 6) 31 [(0, .ref x0), (1, .int x1), (2, .int x2), (3, .int x3), (4, .int s'.1)] [] s'.2 Q) (he : ∀ r' : ps_G, x = .inr r' → ps_At mX12_filter (d + 6) 59 [(0, .ref x0), (1, .int x1), (2, .int x2), (3, .int x3)] [] r' Q) : ps_At mX12_filter (d + 6) 31 [(0, .ref x0), (1, .int x1), (2, .int x2), (3, .int x3), (4, .int x4)] [] g Q := by
  unfold bX12_filter_31 at h
  refine sX12_filter_31 ?_
  refine And.intro (fun hc8 => ?_) (fun hc8 => ?_)
  · replace h := q_ifp (hc8) h
    exact ps_weak (he g (Option.some.inj h).symm) ⟨rfl, rfl, rfl, rfl, trivial⟩
  · replace h := q_ifn (hc8) h
    replace h := q_be h
    obtain ⟨v10, hv, h⟩ := h
    replace hv := q_fR_e hv
    obtain ⟨_, cv10, dv10⟩ := hv
    replace h := q_be h
    obtain ⟨a11, ea11, h⟩ := h
    subst ea11
    replace h := q_be h
    obtain ⟨v12, hv, h⟩ := h
    replace hv := q_fR_e hv
    obtain ⟨_, cv12, dv12⟩ := hv
    replace h := q_be h
    obtain ⟨a13, ea13, h⟩ := h
    subst ea13
    replace h := q_be h
    obtain ⟨v14, hv, h⟩ := h
    replace hv := q_aI_e hv
    obtain ⟨_, _, cv14, iv14, yv14⟩ := hv
    replace h := q_be h
    obtain ⟨g15, hv, h⟩ := h
    replace hv := q_wI_e hv
    obtain ⟨_, _, cg15, pg15, ig15, yg15⟩ := hv
    refine ⟨⟨some _, rfl⟩, _, _, cv10, dv10, ⟨some _, rfl⟩, _, _, cv12, dv12, _, _, cv14, iv14, _, yv14, _, _, cg15, pg15, ig15, _, yg15, by decide, ?_⟩
    exact ps_weak (hh (x4 + (1 : Int32), g15) (Option.some.inj h).symm) ⟨rfl, rfl, rfl, rfl, rfl, trivial⟩
noncomputable def bX12_filter_74 (x0 : Nat) (x1 : Int32) (x2 : Int32) (x3 : Int32) (x4 : Int32) (x5 : Int32) (g : ps_G) : Option ((Int32 × ps_G) ⊕ (ps_G)) := Option.bind (q_fI 12 13 g x0) fun v21 => if v21 ≤ x5 then (some (.inr g)) else (Option.bind (q_ob 12 g x0) fun u24 => Option.bind (fX12_at g x0 x5 x4) fun v25 => Option.bind (q_fR 12 35 g x0) fun v26 => Option.bind (v26) fun a27 => Option.bind (q_ob 12 g x0) fun u28 => Option.bind (fX12_at g x0 x5 x4) fun v29 => Option.bind (q_aI g a27 v29) fun v30 => Option.bind (q_ob 12 g x0) fun u31 => q_b2 (fX12_filtered g x0 x2 x3 x5 x4) fun v32 g33 => Option.bind (q_ob 12 g33 x0) fun u34 => Option.bind (fX12_shiftedChoice g33 x0 x1 x5 x4) fun v35 => Option.bind (fX12_mixed g33 v30 v32 v35) fun v36 => Option.bind (q_ob 12 g33 x0) fun u37 => Option.bind (fX12_put g33 x0 x1 ((17 : Int32) + v25) v36) fun v38 => some (.inl (x5 + (1 : Int32), v38)))
theorem pbX12_filter_74 {d : Nat} {Q : ps_Rs → ps_G → Prop}  {x0 : Nat} {x1 : Int32} {x2 : Int32} {x3 : Int32} {x4 : Int32} {x5 : Int32} {g : ps_G} {x : (Int32 × ps_G) ⊕ (ps_G)} (h : bX12_filter_74 x0 x1 x2 x3 x4 x5 g = some x) (hh : ∀ s' : Int32 × ps_G, x = .inl s' → ps_At mX12_filter (d + 6) 74 [(0, .ref x0), (1, .int x1), (2, .int x2), (3, .int x3), (4, .int x4), (5, .int s'.1)] [] s'.2 Q) (he : ∀ r' : ps_G, x = .inr r' → ps_At mX12_filter (d + 6) 140 [(0, .ref x0), (1, .int x1), (2, .int x2), (3, .int x3), (4, .int x4)] [] r' Q) : ps_At mX12_filter (d + 6) 74 [(0, .ref x0), (1, .int x1), (2, .int x2), (3, .int x3), (4, .int x4), (5, .int x5)] [] g Q := by
  unfold bX12_filter_74 at h
  refine sX12_filter_74 ?_
  replace h := q_be h
  obtain ⟨v21, hv, h⟩ := h
  replace hv := q_fI_e hv
  obtain ⟨_, cv21, dv21⟩ := hv
  refine ⟨⟨some _, rfl⟩, _, _, cv21, dv21, ?_⟩
  refine And.intro (fun hc22 => ?_) (fun hc22 => ?_)
  · replace h := q_ifp (hc22) h
    exact ps_weak (he g (Option.some.inj h).symm) ⟨rfl, rfl, rfl, rfl, rfl, trivial⟩
  · replace h := q_ifn (hc22) h
    replace h := q_be h
    obtain ⟨u24, hv, h⟩ := h
    replace hv := q_ob_e hv
    obtain ⟨_, cu24⟩ := hv
    replace h := q_be h
    obtain ⟨v25, hv, h⟩ := h
    refine ⟨⟨some _, rfl⟩, ⟨some _, rfl⟩, ⟨_, cu24⟩, ?_⟩
    refine rX12_at hv ?_
    replace h := q_be h
    obtain ⟨v26, hv, h⟩ := h
    replace hv := q_fR_e hv
    obtain ⟨_, cv26, dv26⟩ := hv
    replace h := q_be h
    obtain ⟨a27, ea27, h⟩ := h
    subst ea27
    replace h := q_be h
    obtain ⟨u28, hv, h⟩ := h
    replace hv := q_ob_e hv
    obtain ⟨_, cu28⟩ := hv
    replace h := q_be h
    obtain ⟨v29, hv, h⟩ := h
    refine ⟨⟨some _, rfl⟩, _, _, cv26, dv26, ⟨some _, rfl⟩, ⟨_, cu28⟩, ?_⟩
    refine rX12_at hv ?_
    replace h := q_be h
    obtain ⟨v30, hv, h⟩ := h
    replace hv := q_aI_e hv
    obtain ⟨_, _, cv30, iv30, yv30⟩ := hv
    replace h := q_be h
    obtain ⟨u31, hv, h⟩ := h
    replace hv := q_ob_e hv
    obtain ⟨_, cu31⟩ := hv
    replace h := q_b2_e h
    obtain ⟨v32, g33, hv, h⟩ := h
    refine ⟨_, _, cv30, iv30, _, yv30, ⟨some _, rfl⟩, ⟨_, cu31⟩, ?_⟩
    refine rX12_filtered hv ?_
    replace h := q_be h
    obtain ⟨u34, hv, h⟩ := h
    replace hv := q_ob_e hv
    obtain ⟨_, cu34⟩ := hv
    replace h := q_be h
    obtain ⟨v35, hv, h⟩ := h
    refine ⟨⟨some _, rfl⟩, ⟨_, cu34⟩, ?_⟩
    refine rX12_shiftedChoice hv ?_
    replace h := q_be h
    obtain ⟨v36, hv, h⟩ := h
    refine rX12_mixed hv ?_
    replace h := q_be h
    obtain ⟨u37, hv, h⟩ := h
    replace hv := q_ob_e hv
    obtain ⟨_, cu37⟩ := hv
    replace h := q_be h
    obtain ⟨v38, hv, h⟩ := h
    refine ⟨⟨_, cu37⟩, ?_⟩
    refine rX12_put hv ?_
    refine ⟨by decide, ?_⟩
    exact ps_weak (hh (x5 + (1 : Int32), v38) (Option.some.inj h).symm) ⟨rfl, rfl, rfl, rfl, rfl, rfl, trivial⟩
noncomputable def bX12_filter_62 (x0 : Nat) (x1 : Int32) (x2 : Int32) (x3 : Int32) (x4 : Int32) (g : ps_G) : Option ((Int32 × ps_G) ⊕ (ps_G)) := Option.bind (q_fI 12 14 g x0) fun v19 => if v19 ≤ x4 then (some (.inr g)) else (Option.bind (q_lp (fun s => bX12_filter_74 x0 x1 x2 x3 x4 s.1 s.2) ((0 : Int32), g)) fun s41 => some (.inl (x4 + (1 : Int32), s41)))
theorem pbX12_filter_62 {d : Nat} {Q : ps_Rs → ps_G → Prop}  {x0 : Nat} {x1 : Int32} {x2 : Int32} {x3 : Int32} {x4 : Int32} {g : ps_G} {x : (Int32 × ps_G) ⊕ (ps_G)} (h : bX12_filter_62 x0 x1 x2 x3 x4 g = some x) (hh : ∀ s' : Int32 × ps_G, x = .inl s' → ps_At mX12_filter (d + 6) 62 [(0, .ref x0), (1, .int x1), (2, .int x2), (3, .int x3), (4, .int s'.1)] [] s'.2 Q) (he : ∀ r' : ps_G, x = .inr r' → ps_At mX12_filter (d + 6) 146 [(0, .ref x0), (1, .int x1)] [] r' Q) : ps_At mX12_filter (d + 6) 62 [(0, .ref x0), (1, .int x1), (2, .int x2), (3, .int x3), (4, .int x4)] [] g Q := by
  unfold bX12_filter_62 at h
  refine sX12_filter_62 ?_
  replace h := q_be h
  obtain ⟨v19, hv, h⟩ := h
  replace hv := q_fI_e hv
  obtain ⟨_, cv19, dv19⟩ := hv
  refine ⟨⟨some _, rfl⟩, _, _, cv19, dv19, ?_⟩
  refine And.intro (fun hc20 => ?_) (fun hc20 => ?_)
  · replace h := q_ifp (hc20) h
    exact ps_weak (he g (Option.some.inj h).symm) ⟨rfl, rfl, trivial⟩
  · replace h := q_ifn (hc20) h
    refine ⟨by decide, ?_⟩
    replace h := q_be h
    obtain ⟨s41, hl, h⟩ := h
    refine ps_weak (q_lp_ok hl (fun s => ps_At mX12_filter (d + 6) 74 [(0, .ref x0), (1, .int x1), (2, .int x2), (3, .int x3), (4, .int x4), (5, .int s.1)] [] s.2 Q) (fun r => ps_At mX12_filter (d + 6) 140 [(0, .ref x0), (1, .int x1), (2, .int x2), (3, .int x3), (4, .int x4)] [] r Q) (fun s x hb hh he => pbX12_filter_74 hb hh he) ?_) ⟨rfl, rfl, rfl, rfl, rfl, rfl, trivial⟩
    refine (?_ : ps_At mX12_filter (d + 6) 140 [(0, .ref x0), (1, .int x1), (2, .int x2), (3, .int x3), (4, .int x4)] [] s41 Q)
    refine sX12_filter_140 ?_
    refine ⟨by decide, ?_⟩
    exact ps_weak (hh (x4 + (1 : Int32), s41) (Option.some.inj h).symm) ⟨rfl, rfl, rfl, rfl, rfl, trivial⟩
noncomputable def fX12_filter (g : ps_G) (x0 : Nat) (x1 : Int32) (x2 : Int32) (x3 : Int32) : Option (Int32 × ps_G) := Option.bind (q_ob 12 g x0) fun u1 => Option.bind (fX12_why g x0 x1 (fX12_isFilter x2 x3)) fun v2 => Option.bind (q_sI 12 0 g x0 v2) fun g3 => Option.bind (q_fI 12 0 g3 x0) fun v4 => if v4 ≤ 0 then (Option.bind (q_ob 12 g3 x0) fun u6 => Option.bind (fX12_begin g3 x0 x1) fun v7 => Option.bind (q_lp (fun s => bX12_filter_31 x0 x1 x2 x3 s.1 s.2) ((0 : Int32), v7)) fun s18 => Option.bind (q_lp (fun s => bX12_filter_62 x0 x1 x2 x3 s.1 s.2) ((0 : Int32), s18)) fun s44 => Option.bind (q_ob 12 s44 x0) fun u45 => q_b2 (fX12_changed s44 x0 x1) fun v46 g47 => some (v46, g47)) else (some ((0 : Int32), g3))
theorem rX12_filter {d : Nat} {Q : ps_Rs → ps_G → Prop} {g : ps_G} {x0 : Nat} {x1 : Int32} {x2 : Int32} {x3 : Int32} {r : Int32 × ps_G} (h : fX12_filter g x0 x1 x2 x3 = some r) (hk : Q (.inl (some (.int r.1))) r.2) : ps_Ok mX12_filter (d + 6) [.ref x0, .int x1, .int x2, .int x3] g Q := by
  unfold fX12_filter at h
  refine sX12_filter_0 ?_
  refine ⟨⟨some _, rfl⟩, ⟨some _, rfl⟩, ?_⟩
  refine rX12_isFilter rfl ?_
  replace h := q_be h
  obtain ⟨u1, hv, h⟩ := h
  replace hv := q_ob_e hv
  obtain ⟨_, cu1⟩ := hv
  replace h := q_be h
  obtain ⟨v2, hv, h⟩ := h
  refine ⟨⟨_, cu1⟩, ?_⟩
  refine rX12_why hv ?_
  replace h := q_be h
  obtain ⟨g3, hv, h⟩ := h
  replace hv := q_sI_e hv
  obtain ⟨_, cg3, dg3, yg3⟩ := hv
  replace h := q_be h
  obtain ⟨v4, hv, h⟩ := h
  replace hv := q_fI_e hv
  obtain ⟨_, cv4, dv4⟩ := hv
  refine ⟨_, cg3, dg3, rfl, rfl, _, yg3, ⟨some _, rfl⟩, _, _, cv4, dv4, ?_⟩
  refine And.intro (fun hc5 => ?_) (fun hc5 => ?_)
  · replace h := q_ifp (hc5) h
    refine sX12_filter_23 ?_
    replace h := q_be h
    obtain ⟨u6, hv, h⟩ := h
    replace hv := q_ob_e hv
    obtain ⟨_, cu6⟩ := hv
    replace h := q_be h
    obtain ⟨v7, hv, h⟩ := h
    refine ⟨⟨some _, rfl⟩, ⟨_, cu6⟩, ?_⟩
    refine rX12_begin hv ?_
    refine ⟨by decide, ?_⟩
    replace h := q_be h
    obtain ⟨s18, hl, h⟩ := h
    refine ps_weak (q_lp_ok hl (fun s => ps_At mX12_filter (d + 6) 31 [(0, .ref x0), (1, .int x1), (2, .int x2), (3, .int x3), (4, .int s.1)] [] s.2 Q) (fun r => ps_At mX12_filter (d + 6) 59 [(0, .ref x0), (1, .int x1), (2, .int x2), (3, .int x3)] [] r Q) (fun s x hb hh he => pbX12_filter_31 hb hh he) ?_) ⟨rfl, rfl, rfl, rfl, rfl, trivial⟩
    refine (?_ : ps_At mX12_filter (d + 6) 59 [(0, .ref x0), (1, .int x1), (2, .int x2), (3, .int x3)] [] s18 Q)
    refine sX12_filter_59 ?_
    refine ⟨by decide, ?_⟩
    replace h := q_be h
    obtain ⟨s44, hl, h⟩ := h
    refine ps_weak (q_lp_ok hl (fun s => ps_At mX12_filter (d + 6) 62 [(0, .ref x0), (1, .int x1), (2, .int x2), (3, .int x3), (4, .int s.1)] [] s.2 Q) (fun r => ps_At mX12_filter (d + 6) 146 [(0, .ref x0), (1, .int x1)] [] r Q) (fun s x hb hh he => pbX12_filter_62 hb hh he) ?_) ⟨rfl, rfl, rfl, rfl, rfl, trivial⟩
    refine (?_ : ps_At mX12_filter (d + 6) 146 [(0, .ref x0), (1, .int x1)] [] s44 Q)
    refine sX12_filter_146 ?_
    replace h := q_be h
    obtain ⟨u45, hv, h⟩ := h
    replace hv := q_ob_e hv
    obtain ⟨_, cu45⟩ := hv
    replace h := q_b2_e h
    obtain ⟨v46, g47, hv, h⟩ := h
    refine ⟨⟨some _, rfl⟩, ⟨_, cu45⟩, ?_⟩
    refine rX12_changed hv ?_
    cases h
    exact ⟨rfl, hk⟩
  · replace h := q_ifn (hc5) h
    cases h
    exact ⟨rfl, hk⟩
noncomputable def jX12_turn_144_69 (g : ps_G) (x0 : Nat) (x1 : Int32) (x2 : Int32) (x3 : Int32) (x4 : Int32) (k0 : Nat) (k1 : Int32) (k2 : Int32) (k3 : Option Nat) (k4 : Int32) : Option ((Int32 × ps_G) ⊕ (ps_G)) := Option.bind (k3) fun a28 => Option.bind (q_aI g a28 k4) fun v29 => Option.bind (q_ob 12 g k0) fun u30 => Option.bind (fX12_put g k0 k1 k2 v29) fun v31 => some (.inl (x4 + (1 : Int32), v31))
theorem pjX12_turn_144_69 {d : Nat} {Q : ps_Rs → ps_G → Prop} {g : ps_G} {x0 : Nat} {x1 : Int32} {x2 : Int32} {x3 : Int32} {x4 : Int32} {k0 : Nat} {k1 : Int32} {k2 : Int32} {k3 : Option Nat} {k4 : Int32} {x : (Int32 × ps_G) ⊕ (ps_G)} (h : jX12_turn_144_69 g x0 x1 x2 x3 x4 k0 k1 k2 k3 k4 = some x) (hh : ∀ s' : Int32 × ps_G, x = .inl s' → ps_At mX12_turn (d + 4) 69 [(0, .ref x0), (1, .int x1), (2, .int x2), (3, .int x3), (4, .int s'.1)] [] s'.2 Q) (he : ∀ r' : ps_G, x = .inr r' → ps_At mX12_turn (d + 4) 154 [(0, .ref x0), (1, .int x1), (2, .int x2), (3, .int x3)] [] r' Q) : ps_At mX12_turn (d + 4) 144 [(0, .ref x0), (1, .int x1), (2, .int x2), (3, .int x3), (4, .int x4)] [.int k4, va_rf k3, .int k2, .int k1, .ref k0] g Q := by
  unfold jX12_turn_144_69 at h
  refine sX12_turn_144 ?_
  replace h := q_be h
  obtain ⟨a28, ea28, h⟩ := h
  subst ea28
  replace h := q_be h
  obtain ⟨v29, hv, h⟩ := h
  replace hv := q_aI_e hv
  obtain ⟨_, _, cv29, iv29, yv29⟩ := hv
  replace h := q_be h
  obtain ⟨u30, hv, h⟩ := h
  replace hv := q_ob_e hv
  obtain ⟨_, cu30⟩ := hv
  replace h := q_be h
  obtain ⟨v31, hv, h⟩ := h
  refine ⟨_, _, cv29, iv29, _, yv29, ⟨_, cu30⟩, ?_⟩
  refine rX12_put hv ?_
  refine ⟨by decide, ?_⟩
  exact ps_weak (hh (x4 + (1 : Int32), v31) (Option.some.inj h).symm) ⟨rfl, rfl, rfl, rfl, rfl, trivial⟩
noncomputable def bX12_turn_69 (x0 : Nat) (x1 : Int32) (x2 : Int32) (x3 : Int32) (x4 : Int32) (g : ps_G) : Option ((Int32 × ps_G) ⊕ (ps_G)) := Option.bind (q_fI 12 13 g x0) fun v14 => if v14 ≤ x4 then (some (.inr g)) else (Option.bind (q_ob 12 g x0) fun u17 => Option.bind (fX12_at g x0 x4 x3) fun v18 => Option.bind (q_fR 12 35 g x0) fun v19 => Option.bind (v19) fun a20 => if ¬ x2 = 0 then (if ¬ x2 = (1 : Int32) then (Option.bind (q_ob 12 g x0) fun u26 => Option.bind (fX12_at g x0 x3 x4) fun v27 => jX12_turn_144_69 g x0 x1 x2 x3 x4 x0 x1 ((17 : Int32) + v18) (some a20) v27) else (Option.bind (q_fI 12 14 g x0) fun v32 => Option.bind (q_ob 12 g x0) fun u33 => Option.bind (fX12_at g x0 x4 ((v32 - (1 : Int32)) - x3)) fun v34 => jX12_turn_144_69 g x0 x1 x2 x3 x4 x0 x1 ((17 : Int32) + v18) (some a20) v34)) else (Option.bind (q_fI 12 13 g x0) fun v37 => Option.bind (q_ob 12 g x0) fun u38 => Option.bind (fX12_at g x0 ((v37 - (1 : Int32)) - x4) x3) fun v39 => jX12_turn_144_69 g x0 x1 x2 x3 x4 x0 x1 ((17 : Int32) + v18) (some a20) v39))
theorem pbX12_turn_69 {d : Nat} {Q : ps_Rs → ps_G → Prop}  {x0 : Nat} {x1 : Int32} {x2 : Int32} {x3 : Int32} {x4 : Int32} {g : ps_G} {x : (Int32 × ps_G) ⊕ (ps_G)} (h : bX12_turn_69 x0 x1 x2 x3 x4 g = some x) (hh : ∀ s' : Int32 × ps_G, x = .inl s' → ps_At mX12_turn (d + 4) 69 [(0, .ref x0), (1, .int x1), (2, .int x2), (3, .int x3), (4, .int s'.1)] [] s'.2 Q) (he : ∀ r' : ps_G, x = .inr r' → ps_At mX12_turn (d + 4) 154 [(0, .ref x0), (1, .int x1), (2, .int x2), (3, .int x3)] [] r' Q) : ps_At mX12_turn (d + 4) 69 [(0, .ref x0), (1, .int x1), (2, .int x2), (3, .int x3), (4, .int x4)] [] g Q := by
  unfold bX12_turn_69 at h
  refine sX12_turn_69 ?_
  replace h := q_be h
  obtain ⟨v14, hv, h⟩ := h
  replace hv := q_fI_e hv
  obtain ⟨_, cv14, dv14⟩ := hv
  refine ⟨⟨some _, rfl⟩, _, _, cv14, dv14, ?_⟩
  refine And.intro (fun hc15 => ?_) (fun hc15 => ?_)
  · replace h := q_ifp (hc15) h
    exact ps_weak (he g (Option.some.inj h).symm) ⟨rfl, rfl, rfl, rfl, trivial⟩
  · replace h := q_ifn (hc15) h
    replace h := q_be h
    obtain ⟨u17, hv, h⟩ := h
    replace hv := q_ob_e hv
    obtain ⟨_, cu17⟩ := hv
    replace h := q_be h
    obtain ⟨v18, hv, h⟩ := h
    refine ⟨⟨some _, rfl⟩, ⟨some _, rfl⟩, ⟨_, cu17⟩, ?_⟩
    refine rX12_at hv ?_
    replace h := q_be h
    obtain ⟨v19, hv, h⟩ := h
    replace hv := q_fR_e hv
    obtain ⟨_, cv19, dv19⟩ := hv
    replace h := q_be h
    obtain ⟨a20, ea20, h⟩ := h
    subst ea20
    refine ⟨⟨some _, rfl⟩, _, _, cv19, dv19, ?_⟩
    refine And.intro (fun hc21 => ?_) (fun hc21 => ?_)
    · replace h := q_ifp (hc21) h
      refine sX12_turn_115 ?_
      refine And.intro (fun hc24 => ?_) (fun hc24 => ?_)
      · replace h := q_ifp (hc24) h
        refine sX12_turn_137 ?_
        replace h := q_be h
        obtain ⟨u26, hv, h⟩ := h
        replace hv := q_ob_e hv
        obtain ⟨_, cu26⟩ := hv
        replace h := q_be h
        obtain ⟨v27, hv, h⟩ := h
        refine ⟨⟨some _, rfl⟩, ⟨_, cu26⟩, ?_⟩
        refine rX12_at hv ?_
        exact ps_weak (pjX12_turn_144_69 h hh he) ⟨rfl, rfl, rfl, rfl, rfl, trivial⟩
      · replace h := q_ifn (hc24) h
        replace h := q_be h
        obtain ⟨v32, hv, h⟩ := h
        replace hv := q_fI_e hv
        obtain ⟨_, cv32, dv32⟩ := hv
        replace h := q_be h
        obtain ⟨u33, hv, h⟩ := h
        replace hv := q_ob_e hv
        obtain ⟨_, cu33⟩ := hv
        replace h := q_be h
        obtain ⟨v34, hv, h⟩ := h
        refine ⟨⟨some _, rfl⟩, ⟨some _, rfl⟩, _, _, cv32, dv32, ⟨_, cu33⟩, ?_⟩
        refine rX12_at hv ?_
        exact ps_weak (pjX12_turn_144_69 h hh he) ⟨rfl, rfl, rfl, rfl, rfl, trivial⟩
    · replace h := q_ifn (hc21) h
      replace h := q_be h
      obtain ⟨v37, hv, h⟩ := h
      replace hv := q_fI_e hv
      obtain ⟨_, cv37, dv37⟩ := hv
      replace h := q_be h
      obtain ⟨u38, hv, h⟩ := h
      replace hv := q_ob_e hv
      obtain ⟨_, cu38⟩ := hv
      replace h := q_be h
      obtain ⟨v39, hv, h⟩ := h
      refine ⟨⟨some _, rfl⟩, ⟨some _, rfl⟩, _, _, cv37, dv37, ⟨_, cu38⟩, ?_⟩
      refine rX12_at hv ?_
      exact ps_weak (pjX12_turn_144_69 h hh he) ⟨rfl, rfl, rfl, rfl, rfl, trivial⟩
noncomputable def bX12_turn_58 (x0 : Nat) (x1 : Int32) (x2 : Int32) (x3 : Int32) (g : ps_G) : Option ((Int32 × ps_G) ⊕ (ps_G)) := Option.bind (q_fI 12 14 g x0) fun v12 => if v12 ≤ x3 then (some (.inr g)) else (Option.bind (q_lp (fun s => bX12_turn_69 x0 x1 x2 x3 s.1 s.2) ((0 : Int32), g)) fun s44 => some (.inl (x3 + (1 : Int32), s44)))
theorem pbX12_turn_58 {d : Nat} {Q : ps_Rs → ps_G → Prop}  {x0 : Nat} {x1 : Int32} {x2 : Int32} {x3 : Int32} {g : ps_G} {x : (Int32 × ps_G) ⊕ (ps_G)} (h : bX12_turn_58 x0 x1 x2 x3 g = some x) (hh : ∀ s' : Int32 × ps_G, x = .inl s' → ps_At mX12_turn (d + 4) 58 [(0, .ref x0), (1, .int x1), (2, .int x2), (3, .int s'.1)] [] s'.2 Q) (he : ∀ r' : ps_G, x = .inr r' → ps_At mX12_turn (d + 4) 160 [(0, .ref x0)] [] r' Q) : ps_At mX12_turn (d + 4) 58 [(0, .ref x0), (1, .int x1), (2, .int x2), (3, .int x3)] [] g Q := by
  unfold bX12_turn_58 at h
  refine sX12_turn_58 ?_
  replace h := q_be h
  obtain ⟨v12, hv, h⟩ := h
  replace hv := q_fI_e hv
  obtain ⟨_, cv12, dv12⟩ := hv
  refine ⟨⟨some _, rfl⟩, _, _, cv12, dv12, ?_⟩
  refine And.intro (fun hc13 => ?_) (fun hc13 => ?_)
  · replace h := q_ifp (hc13) h
    exact ps_weak (he g (Option.some.inj h).symm) ⟨rfl, trivial⟩
  · replace h := q_ifn (hc13) h
    refine ⟨by decide, ?_⟩
    replace h := q_be h
    obtain ⟨s44, hl, h⟩ := h
    refine ps_weak (q_lp_ok hl (fun s => ps_At mX12_turn (d + 4) 69 [(0, .ref x0), (1, .int x1), (2, .int x2), (3, .int x3), (4, .int s.1)] [] s.2 Q) (fun r => ps_At mX12_turn (d + 4) 154 [(0, .ref x0), (1, .int x1), (2, .int x2), (3, .int x3)] [] r Q) (fun s x hb hh he => pbX12_turn_69 hb hh he) ?_) ⟨rfl, rfl, rfl, rfl, rfl, trivial⟩
    refine (?_ : ps_At mX12_turn (d + 4) 154 [(0, .ref x0), (1, .int x1), (2, .int x2), (3, .int x3)] [] s44 Q)
    refine sX12_turn_154 ?_
    refine ⟨by decide, ?_⟩
    exact ps_weak (hh (x3 + (1 : Int32), s44) (Option.some.inj h).symm) ⟨rfl, rfl, rfl, rfl, trivial⟩
noncomputable def jX12_turn_43 (g : ps_G) (x0 : Nat) (x1 : Int32) (x2 : Int32) : Option (ps_G) := Option.bind (q_fI 12 0 g x0) fun v8 => if v8 ≤ 0 then (Option.bind (q_ob 12 g x0) fun u10 => Option.bind (fX12_begin g x0 x1) fun v11 => Option.bind (q_lp (fun s => bX12_turn_58 x0 x1 x2 s.1 s.2) ((0 : Int32), v11)) fun s47 => Option.bind (q_ob 12 s47 x0) fun u48 => Option.bind (fX12_edited s47 x0) fun v49 => Option.bind (q_ob 12 v49 x0) fun u50 => Option.bind (fX12_forget v49 x0) fun v51 => some v51) else (some g)
theorem pjX12_turn_43 {d : Nat} {Q : ps_Rs → ps_G → Prop} {g : ps_G} {x0 : Nat} {x1 : Int32} {x2 : Int32} {r : ps_G} (h : jX12_turn_43 g x0 x1 x2 = some r) (hk : Q (.inl none) r) : ps_At mX12_turn (d + 4) 43 [(0, .ref x0), (1, .int x1), (2, .int x2)] [] g Q := by
  unfold jX12_turn_43 at h
  refine sX12_turn_43 ?_
  replace h := q_be h
  obtain ⟨v8, hv, h⟩ := h
  replace hv := q_fI_e hv
  obtain ⟨_, cv8, dv8⟩ := hv
  refine ⟨⟨some _, rfl⟩, _, _, cv8, dv8, ?_⟩
  refine And.intro (fun hc9 => ?_) (fun hc9 => ?_)
  · replace h := q_ifp (hc9) h
    refine sX12_turn_51 ?_
    replace h := q_be h
    obtain ⟨u10, hv, h⟩ := h
    replace hv := q_ob_e hv
    obtain ⟨_, cu10⟩ := hv
    replace h := q_be h
    obtain ⟨v11, hv, h⟩ := h
    refine ⟨⟨some _, rfl⟩, ⟨_, cu10⟩, ?_⟩
    refine rX12_begin hv ?_
    refine ⟨by decide, ?_⟩
    replace h := q_be h
    obtain ⟨s47, hl, h⟩ := h
    refine ps_weak (q_lp_ok hl (fun s => ps_At mX12_turn (d + 4) 58 [(0, .ref x0), (1, .int x1), (2, .int x2), (3, .int s.1)] [] s.2 Q) (fun r => ps_At mX12_turn (d + 4) 160 [(0, .ref x0)] [] r Q) (fun s x hb hh he => pbX12_turn_58 hb hh he) ?_) ⟨rfl, rfl, rfl, rfl, trivial⟩
    refine (?_ : ps_At mX12_turn (d + 4) 160 [(0, .ref x0)] [] s47 Q)
    refine sX12_turn_160 ?_
    replace h := q_be h
    obtain ⟨u48, hv, h⟩ := h
    replace hv := q_ob_e hv
    obtain ⟨_, cu48⟩ := hv
    replace h := q_be h
    obtain ⟨v49, hv, h⟩ := h
    refine ⟨⟨some _, rfl⟩, ⟨_, cu48⟩, ?_⟩
    refine rX12_edited hv ?_
    replace h := q_be h
    obtain ⟨u50, hv, h⟩ := h
    replace hv := q_ob_e hv
    obtain ⟨_, cu50⟩ := hv
    replace h := q_be h
    obtain ⟨v51, hv, h⟩ := h
    refine ⟨⟨some _, rfl⟩, ⟨_, cu50⟩, ?_⟩
    refine rX12_forget hv ?_
    cases h
    exact ⟨rfl, rfl, hk⟩
  · replace h := q_ifn (hc9) h
    cases h
    exact ⟨rfl, rfl, hk⟩
noncomputable def fX12_turn (g : ps_G) (x0 : Nat) (x1 : Int32) (x2 : Int32) : Option (ps_G) := Option.bind (q_ob 12 g x0) fun u1 => Option.bind (fX12_why g x0 x1 (fX12_in x2 (0 : Int32) (2 : Int32))) fun v2 => Option.bind (q_sI 12 0 g x0 v2) fun g3 => Option.bind (q_fI 12 0 g3 x0) fun v4 => if (¬ v4 = 0) ∨ (¬ x2 = (2 : Int32)) then (jX12_turn_43 g3 x0 x1 x2) else (Option.bind (q_fI 12 13 g3 x0) fun v54 => Option.bind (q_fI 12 14 g3 x0) fun v55 => if v54 = v55 then (jX12_turn_43 g3 x0 x1 x2) else (Option.bind (q_sI 12 0 g3 x0 (3 : Int32)) fun g58 => jX12_turn_43 g58 x0 x1 x2))
theorem rX12_turn {d : Nat} {Q : ps_Rs → ps_G → Prop} {g : ps_G} {x0 : Nat} {x1 : Int32} {x2 : Int32} {r : ps_G} (h : fX12_turn g x0 x1 x2 = some r) (hk : Q (.inl none) r) : ps_Ok mX12_turn (d + 4) [.ref x0, .int x1, .int x2] g Q := by
  unfold fX12_turn at h
  refine sX12_turn_0 ?_
  refine ⟨⟨some _, rfl⟩, ⟨some _, rfl⟩, ?_⟩
  refine rX12_in rfl ?_
  replace h := q_be h
  obtain ⟨u1, hv, h⟩ := h
  replace hv := q_ob_e hv
  obtain ⟨_, cu1⟩ := hv
  replace h := q_be h
  obtain ⟨v2, hv, h⟩ := h
  refine ⟨⟨_, cu1⟩, ?_⟩
  refine rX12_why hv ?_
  replace h := q_be h
  obtain ⟨g3, hv, h⟩ := h
  replace hv := q_sI_e hv
  obtain ⟨_, cg3, dg3, yg3⟩ := hv
  replace h := q_be h
  obtain ⟨v4, hv, h⟩ := h
  replace hv := q_fI_e hv
  obtain ⟨_, cv4, dv4⟩ := hv
  have kT61 : (jX12_turn_43 g3 x0 x1 x2) = some r → ps_At mX12_turn (d + 4) 43 [(0, .ref x0), (1, .int x1), (2, .int x2)] [] g3 Q := fun h => by
    exact ps_weak (pjX12_turn_43 h hk) ⟨rfl, rfl, rfl, trivial⟩
  refine ⟨_, cg3, dg3, rfl, rfl, _, yg3, ⟨some _, rfl⟩, _, _, cv4, dv4, ?_⟩
  refine And.intro (fun hc5 => ?_) (fun hc5 => ?_)
  · exact ps_weak (kT61 (q_ifp (Or.inl hc5) h)) ⟨rfl, rfl, rfl, trivial⟩
  · refine And.intro (fun hc6 => ?_) (fun hc6 => ?_)
    · exact ps_weak (kT61 (q_ifp (Or.inr (hc6)) h)) ⟨rfl, rfl, rfl, trivial⟩
    · replace h := q_ifn (not_or.mpr ⟨hc5, hc6⟩) h
      replace h := q_be h
      obtain ⟨v54, hv, h⟩ := h
      replace hv := q_fI_e hv
      obtain ⟨_, cv54, dv54⟩ := hv
      replace h := q_be h
      obtain ⟨v55, hv, h⟩ := h
      replace hv := q_fI_e hv
      obtain ⟨_, cv55, dv55⟩ := hv
      refine ⟨⟨some _, rfl⟩, _, _, cv54, dv54, ⟨some _, rfl⟩, _, _, cv55, dv55, ?_⟩
      refine And.intro (fun hc56 => ?_) (fun hc56 => ?_)
      · replace h := q_ifp (hc56) h
        exact ps_weak (pjX12_turn_43 h hk) ⟨rfl, rfl, rfl, trivial⟩
      · replace h := q_ifn (hc56) h
        replace h := q_be h
        obtain ⟨g58, hv, h⟩ := h
        replace hv := q_sI_e hv
        obtain ⟨_, cg58, dg58, yg58⟩ := hv
        refine ⟨⟨some _, rfl⟩, _, cg58, dg58, rfl, rfl, _, yg58, ?_⟩
        exact ps_weak (pjX12_turn_43 h hk) ⟨rfl, rfl, rfl, trivial⟩
noncomputable def jX12_beforeAt_24 (g : ps_G) (k0 : Int32) : Option (Int32) := some k0
theorem pjX12_beforeAt_24 {d : Nat} {Q : ps_Rs → ps_G → Prop} {g : ps_G} {k0 : Int32} {r : Int32} (h : jX12_beforeAt_24 g k0 = some r) (hk : Q (.inl (some (.int r))) g) : ps_At mX12_beforeAt (d + 1) 24 [] [.int k0] g Q := by
  unfold jX12_beforeAt_24 at h
  refine sX12_beforeAt_24 ?_
  cases h
  exact ⟨rfl, hk⟩
noncomputable def fX12_beforeAt (g : ps_G) (x0 : Nat) (x1 : Int32) (x2 : Int32) : Option (Int32) := Option.bind (q_ob 12 g x0) fun u1 => Option.bind (fX12_isPlace g x0 x1 x2) fun v2 => if v2 = 0 then (jX12_beforeAt_24 g (0 : Int32)) else (Option.bind (q_fR 12 35 g x0) fun v5 => Option.bind (v5) fun a6 => Option.bind (q_ob 12 g x0) fun u7 => Option.bind (fX12_at g x0 x1 x2) fun v8 => Option.bind (q_aI g a6 v8) fun v9 => jX12_beforeAt_24 g v9)
theorem rX12_beforeAt {d : Nat} {Q : ps_Rs → ps_G → Prop} {g : ps_G} {x0 : Nat} {x1 : Int32} {x2 : Int32} {r : Int32} (h : fX12_beforeAt g x0 x1 x2 = some r) (hk : Q (.inl (some (.int r))) g) : ps_Ok mX12_beforeAt (d + 1) [.ref x0, .int x1, .int x2] g Q := by
  unfold fX12_beforeAt at h
  refine sX12_beforeAt_0 ?_
  replace h := q_be h
  obtain ⟨u1, hv, h⟩ := h
  replace hv := q_ob_e hv
  obtain ⟨_, cu1⟩ := hv
  replace h := q_be h
  obtain ⟨v2, hv, h⟩ := h
  refine ⟨⟨some _, rfl⟩, ⟨_, cu1⟩, ?_⟩
  refine rX12_isPlace hv ?_
  refine And.intro (fun hc3 => ?_) (fun hc3 => ?_)
  · replace h := q_ifp (hc3) h
    refine sX12_beforeAt_23 ?_
    exact ps_weak (pjX12_beforeAt_24 h hk) trivial
  · replace h := q_ifn (hc3) h
    replace h := q_be h
    obtain ⟨v5, hv, h⟩ := h
    replace hv := q_fR_e hv
    obtain ⟨_, cv5, dv5⟩ := hv
    replace h := q_be h
    obtain ⟨a6, ea6, h⟩ := h
    subst ea6
    replace h := q_be h
    obtain ⟨u7, hv, h⟩ := h
    replace hv := q_ob_e hv
    obtain ⟨_, cu7⟩ := hv
    replace h := q_be h
    obtain ⟨v8, hv, h⟩ := h
    refine ⟨⟨some _, rfl⟩, _, _, cv5, dv5, ⟨some _, rfl⟩, ⟨_, cu7⟩, ?_⟩
    refine rX12_at hv ?_
    replace h := q_be h
    obtain ⟨v9, hv, h⟩ := h
    replace hv := q_aI_e hv
    obtain ⟨_, _, cv9, iv9, yv9⟩ := hv
    refine ⟨_, _, cv9, iv9, _, yv9, ?_⟩
    exact ps_weak (pjX12_beforeAt_24 h hk) trivial
noncomputable def bX12_four_26 (g : ps_G) (x0 : Nat) (x1 : Int32) (x2 : Int32) (x3 : Int32) (x4 : Int32) (x5 : Int32) (x6 : Int32) (x7 : Int32) (x8 : Int32) (x9 : Int32) : Option ((Int32 × Int32 × Int32 × Int32 × Int32) ⊕ (Int32 × Int32 × Int32 × Int32)) := if (4 : Int32) ≤ x9 then (some (.inr (x5, x6, x7, x8))) else (Option.bind (q_ob 12 g x0) fun u3 => Option.bind (fX12_beforeAt g x0 ((q_shr x1 (4 : Int32)) + (q_rem x9 (2 : Int32))) ((q_shr x2 (4 : Int32)) + (x9 / (2 : Int32)))) fun v4 => some (.inl (x5 + (((if ¬ (q_rem x9 (2 : Int32)) = 0 then x3 else (16 : Int32) - x3) * (if ¬ (x9 / (2 : Int32)) = 0 then x4 else (16 : Int32) - x4)) * (fX12_alpha v4)), x6 + ((((if ¬ (q_rem x9 (2 : Int32)) = 0 then x3 else (16 : Int32) - x3) * (if ¬ (x9 / (2 : Int32)) = 0 then x4 else (16 : Int32) - x4)) * (fX12_alpha v4)) * (fX12_part v4 (0 : Int32))), x7 + ((((if ¬ (q_rem x9 (2 : Int32)) = 0 then x3 else (16 : Int32) - x3) * (if ¬ (x9 / (2 : Int32)) = 0 then x4 else (16 : Int32) - x4)) * (fX12_alpha v4)) * (fX12_part v4 (1 : Int32))), x8 + ((((if ¬ (q_rem x9 (2 : Int32)) = 0 then x3 else (16 : Int32) - x3) * (if ¬ (x9 / (2 : Int32)) = 0 then x4 else (16 : Int32) - x4)) * (fX12_alpha v4)) * (fX12_part v4 (2 : Int32))), x9 + (1 : Int32))))
theorem pbX12_four_26 {d : Nat} {Q : ps_Rs → ps_G → Prop} {g : ps_G} {x0 : Nat} {x1 : Int32} {x2 : Int32} {x3 : Int32} {x4 : Int32} {x5 : Int32} {x6 : Int32} {x7 : Int32} {x8 : Int32} {x9 : Int32} {x : (Int32 × Int32 × Int32 × Int32 × Int32) ⊕ (Int32 × Int32 × Int32 × Int32)} (h : bX12_four_26 g x0 x1 x2 x3 x4 x5 x6 x7 x8 x9 = some x) (hh : ∀ s' : Int32 × Int32 × Int32 × Int32 × Int32, x = .inl s' → ps_At mX12_four (d + 2) 26 [(0, .ref x0), (1, .int x1), (2, .int x2), (3, .int x3), (4, .int x4), (5, .int s'.1), (6, .int s'.2.1), (7, .int s'.2.2.1), (8, .int s'.2.2.2.1), (9, .int s'.2.2.2.2)] [] g Q) (he : ∀ r' : Int32 × Int32 × Int32 × Int32, x = .inr r' → ps_At mX12_four (d + 2) 150 [(5, .int r'.1), (6, .int r'.2.1), (7, .int r'.2.2.1), (8, .int r'.2.2.2)] [] g Q) : ps_At mX12_four (d + 2) 26 [(0, .ref x0), (1, .int x1), (2, .int x2), (3, .int x3), (4, .int x4), (5, .int x5), (6, .int x6), (7, .int x7), (8, .int x8), (9, .int x9)] [] g Q := by
  unfold bX12_four_26 at h
  refine sX12_four_26 ?_
  refine And.intro (fun hc1 => ?_) (fun hc1 => ?_)
  · replace h := q_ifp (hc1) h
    exact ps_weak (he (x5, x6, x7, x8) (Option.some.inj h).symm) ⟨rfl, rfl, rfl, rfl, trivial⟩
  · replace h := q_ifn (hc1) h
    replace h := q_be h
    obtain ⟨u3, hv, h⟩ := h
    replace hv := q_ob_e hv
    obtain ⟨_, cu3⟩ := hv
    replace h := q_be h
    obtain ⟨v4, hv, h⟩ := h
    refine ⟨⟨some _, rfl⟩, by decide, _, rfl, by decide, _, rfl, ⟨_, cu3⟩, ?_⟩
    refine rX12_beforeAt hv ?_
    have kJ7 : ∀ w6 : Int32, w6 = (if ¬ (q_rem x9 (2 : Int32)) = 0 then x3 else (16 : Int32) - x3) → ps_At mX12_four (d + 2) 69 [(0, .ref x0), (1, .int x1), (2, .int x2), (3, .int x3), (4, .int x4), (5, .int x5), (6, .int x6), (7, .int x7), (8, .int x8), (9, .int x9), (10, .int v4)] [.int w6] g Q := by
      rintro _ rfl
      refine sX12_four_69 ?_
      have kJ10 : ∀ w9 : Int32, w9 = (if ¬ (x9 / (2 : Int32)) = 0 then x4 else (16 : Int32) - x4) → ps_At mX12_four (d + 2) 86 [(0, .ref x0), (1, .int x1), (2, .int x2), (3, .int x3), (4, .int x4), (5, .int x5), (6, .int x6), (7, .int x7), (8, .int x8), (9, .int x9), (10, .int v4)] [.int w9, .int (if ¬ (q_rem x9 (2 : Int32)) = 0 then x3 else (16 : Int32) - x3)] g Q := by
        rintro _ rfl
        refine sX12_four_86 ?_
        refine rX12_alpha rfl ?_
        refine ⟨by decide, by decide, ?_⟩
        refine rX12_part rfl ?_
        refine ⟨by decide, ?_⟩
        refine rX12_part rfl ?_
        refine ⟨by decide, ?_⟩
        refine rX12_part rfl ?_
        refine ⟨by decide, by decide, ?_⟩
        exact ps_weak (hh (x5 + (((if ¬ (q_rem x9 (2 : Int32)) = 0 then x3 else (16 : Int32) - x3) * (if ¬ (x9 / (2 : Int32)) = 0 then x4 else (16 : Int32) - x4)) * (fX12_alpha v4)), x6 + ((((if ¬ (q_rem x9 (2 : Int32)) = 0 then x3 else (16 : Int32) - x3) * (if ¬ (x9 / (2 : Int32)) = 0 then x4 else (16 : Int32) - x4)) * (fX12_alpha v4)) * (fX12_part v4 (0 : Int32))), x7 + ((((if ¬ (q_rem x9 (2 : Int32)) = 0 then x3 else (16 : Int32) - x3) * (if ¬ (x9 / (2 : Int32)) = 0 then x4 else (16 : Int32) - x4)) * (fX12_alpha v4)) * (fX12_part v4 (1 : Int32))), x8 + ((((if ¬ (q_rem x9 (2 : Int32)) = 0 then x3 else (16 : Int32) - x3) * (if ¬ (x9 / (2 : Int32)) = 0 then x4 else (16 : Int32) - x4)) * (fX12_alpha v4)) * (fX12_part v4 (2 : Int32))), x9 + (1 : Int32)) (Option.some.inj h).symm) ⟨rfl, rfl, rfl, rfl, rfl, rfl, rfl, rfl, rfl, rfl, trivial⟩
      refine ⟨by decide, _, rfl, ?_⟩
      refine And.intro (fun hc8 => ?_) (fun hc8 => ?_)
      · refine sX12_four_84 ?_
        exact ps_weak (kJ10 _ (if_pos (hc8)).symm) ⟨rfl, rfl, rfl, rfl, rfl, rfl, rfl, rfl, rfl, rfl, rfl, trivial⟩
      · exact ps_weak (kJ10 _ (if_neg (hc8)).symm) ⟨rfl, rfl, rfl, rfl, rfl, rfl, rfl, rfl, rfl, rfl, rfl, trivial⟩
    refine ⟨by decide, by decide, _, rfl, ?_⟩
    refine And.intro (fun hc5 => ?_) (fun hc5 => ?_)
    · refine sX12_four_68 ?_
      exact ps_weak (kJ7 _ (if_pos (hc5)).symm) ⟨rfl, rfl, rfl, rfl, rfl, rfl, rfl, rfl, rfl, rfl, rfl, trivial⟩
    · exact ps_weak (kJ7 _ (if_neg (hc5)).symm) ⟨rfl, rfl, rfl, rfl, rfl, rfl, rfl, rfl, rfl, rfl, rfl, trivial⟩
noncomputable def jX12_four_201 (g : ps_G) (k0 : Int32) : Option (Int32) := some k0
theorem pjX12_four_201 {d : Nat} {Q : ps_Rs → ps_G → Prop} {g : ps_G} {k0 : Int32} {r : Int32} (h : jX12_four_201 g k0 = some r) (hk : Q (.inl (some (.int r))) g) : ps_At mX12_four (d + 2) 201 [] [.int k0] g Q := by
  unfold jX12_four_201 at h
  refine sX12_four_201 ?_
  cases h
  exact ⟨rfl, hk⟩
noncomputable def fX12_four (g : ps_G) (x0 : Nat) (x1 : Int32) (x2 : Int32) : Option (Int32) := Option.bind (q_lp (fun s => bX12_four_26 g x0 x1 x2 (x1 &&& (15 : Int32)) (x2 &&& (15 : Int32)) s.1 s.2.1 s.2.2.1 s.2.2.2.1 s.2.2.2.2) ((0 : Int32), (0 : Int32), (0 : Int32), (0 : Int32), (0 : Int32))) fun s13 => if ¬ s13.1 = 0 then (Option.bind (q_div (s13.2.1 + (s13.1 / (2 : Int32))) s13.1) fun v16 => Option.bind (q_div (s13.2.2.1 + (s13.1 / (2 : Int32))) s13.1) fun v17 => Option.bind (q_div (s13.2.2.2 + (s13.1 / (2 : Int32))) s13.1) fun v18 => jX12_four_201 g (fX12_colour v16 v17 v18 (q_shr (s13.1 + (128 : Int32)) (8 : Int32)))) else (jX12_four_201 g (0 : Int32))
theorem rX12_four {d : Nat} {Q : ps_Rs → ps_G → Prop} {g : ps_G} {x0 : Nat} {x1 : Int32} {x2 : Int32} {r : Int32} (h : fX12_four g x0 x1 x2 = some r) (hk : Q (.inl (some (.int r))) g) : ps_Ok mX12_four (d + 2) [.ref x0, .int x1, .int x2] g Q := by
  unfold fX12_four at h
  refine sX12_four_0 ?_
  refine ⟨by decide, by decide, by decide, by decide, by decide, by decide, by decide, ?_⟩
  replace h := q_be h
  obtain ⟨s13, hl, h⟩ := h
  refine ps_weak (q_lp_ok hl (fun s => ps_At mX12_four (d + 2) 26 [(0, .ref x0), (1, .int x1), (2, .int x2), (3, .int (x1 &&& (15 : Int32))), (4, .int (x2 &&& (15 : Int32))), (5, .int s.1), (6, .int s.2.1), (7, .int s.2.2.1), (8, .int s.2.2.2.1), (9, .int s.2.2.2.2)] [] g Q) (fun r => ps_At mX12_four (d + 2) 150 [(5, .int r.1), (6, .int r.2.1), (7, .int r.2.2.1), (8, .int r.2.2.2)] [] g Q) (fun s x hb hh he => pbX12_four_26 hb hh he) ?_) ⟨rfl, rfl, rfl, rfl, rfl, rfl, rfl, rfl, rfl, rfl, trivial⟩
  refine (?_ : ps_At mX12_four (d + 2) 150 [(5, .int s13.1), (6, .int s13.2.1), (7, .int s13.2.2.1), (8, .int s13.2.2.2)] [] g Q)
  refine sX12_four_150 ?_
  refine And.intro (fun hc14 => ?_) (fun hc14 => ?_)
  · replace h := q_ifp (hc14) h
    refine sX12_four_159 ?_
    replace h := q_be h
    obtain ⟨v16, hv, h⟩ := h
    replace hv := q_div_e hv
    obtain ⟨zv16, yv16⟩ := hv
    replace h := q_be h
    obtain ⟨v17, hv, h⟩ := h
    replace hv := q_div_e hv
    obtain ⟨zv17, yv17⟩ := hv
    replace h := q_be h
    obtain ⟨v18, hv, h⟩ := h
    replace hv := q_div_e hv
    obtain ⟨zv18, yv18⟩ := hv
    refine ⟨by decide, _, rfl, zv16, _, yv16, by decide, _, rfl, zv17, _, yv17, by decide, _, rfl, zv18, _, yv18, ?_⟩
    refine rX12_colour rfl ?_
    exact ps_weak (pjX12_four_201 h hk) trivial
  · replace h := q_ifn (hc14) h
    exact ps_weak (pjX12_four_201 h hk) trivial
noncomputable def jX12_scale_143_62 (g : ps_G) (x0 : Nat) (x1 : Int32) (x2 : Int32) (x3 : Int32) (x4 : Int32) (x5 : Int32) (x6 : Int32) (k0 : Int32) : Option ((Int32 × ps_G) ⊕ (ps_G)) := Option.bind (q_ob 12 g x0) fun u21 => Option.bind (fX12_at g x0 x6 x5) fun v22 => Option.bind (q_ob 12 g x0) fun u23 => Option.bind (fX12_put g x0 x1 ((17 : Int32) + v22) k0) fun v24 => some (.inl (x6 + (1 : Int32), v24))
theorem pjX12_scale_143_62 {d : Nat} {Q : ps_Rs → ps_G → Prop} {g : ps_G} {x0 : Nat} {x1 : Int32} {x2 : Int32} {x3 : Int32} {x4 : Int32} {x5 : Int32} {x6 : Int32} {k0 : Int32} {x : (Int32 × ps_G) ⊕ (ps_G)} (h : jX12_scale_143_62 g x0 x1 x2 x3 x4 x5 x6 k0 = some x) (hh : ∀ s' : Int32 × ps_G, x = .inl s' → ps_At mX12_scale (d + 4) 62 [(0, .ref x0), (1, .int x1), (2, .int x2), (3, .int x3), (4, .int x4), (5, .int x5), (6, .int s'.1)] [] s'.2 Q) (he : ∀ r' : ps_G, x = .inr r' → ps_At mX12_scale (d + 4) 169 [(0, .ref x0), (1, .int x1), (2, .int x2), (3, .int x3), (4, .int x4), (5, .int x5)] [] r' Q) : ps_At mX12_scale (d + 4) 143 [(0, .ref x0), (1, .int x1), (2, .int x2), (3, .int x3), (4, .int x4), (5, .int x5), (6, .int x6)] [.int k0] g Q := by
  unfold jX12_scale_143_62 at h
  refine sX12_scale_143 ?_
  replace h := q_be h
  obtain ⟨u21, hv, h⟩ := h
  replace hv := q_ob_e hv
  obtain ⟨_, cu21⟩ := hv
  replace h := q_be h
  obtain ⟨v22, hv, h⟩ := h
  refine ⟨by decide, ⟨some _, rfl⟩, ⟨some _, rfl⟩, ⟨_, cu21⟩, ?_⟩
  refine rX12_at hv ?_
  replace h := q_be h
  obtain ⟨u23, hv, h⟩ := h
  replace hv := q_ob_e hv
  obtain ⟨_, cu23⟩ := hv
  replace h := q_be h
  obtain ⟨v24, hv, h⟩ := h
  refine ⟨⟨_, cu23⟩, ?_⟩
  refine rX12_put hv ?_
  refine ⟨by decide, ?_⟩
  exact ps_weak (hh (x6 + (1 : Int32), v24) (Option.some.inj h).symm) ⟨rfl, rfl, rfl, rfl, rfl, rfl, rfl, trivial⟩
noncomputable def bX12_scale_62 (x0 : Nat) (x1 : Int32) (x2 : Int32) (x3 : Int32) (x4 : Int32) (x5 : Int32) (x6 : Int32) (g : ps_G) : Option ((Int32 × ps_G) ⊕ (ps_G)) := Option.bind (q_fI 12 13 g x0) fun v11 => if v11 ≤ x6 then (some (.inr g)) else (if x4 = 0 then (Option.bind (q_div ((((2 : Int32) * x6) + (1 : Int32)) * x3) ((2 : Int32) * x2)) fun v17 => Option.bind (q_div ((((2 : Int32) * x5) + (1 : Int32)) * x3) ((2 : Int32) * x2)) fun v18 => Option.bind (q_ob 12 g x0) fun u19 => Option.bind (fX12_beforeAt g x0 v17 v18) fun v20 => jX12_scale_143_62 g x0 x1 x2 x3 x4 x5 x6 v20) else (Option.bind (q_div (((((2 : Int32) * x6) + (1 : Int32)) * x3) * (8 : Int32)) x2) fun v25 => Option.bind (q_div (((((2 : Int32) * x5) + (1 : Int32)) * x3) * (8 : Int32)) x2) fun v26 => Option.bind (q_ob 12 g x0) fun u27 => Option.bind (fX12_four g x0 (v25 - (8 : Int32)) (v26 - (8 : Int32))) fun v28 => jX12_scale_143_62 g x0 x1 x2 x3 x4 x5 x6 v28))
theorem pbX12_scale_62 {d : Nat} {Q : ps_Rs → ps_G → Prop}  {x0 : Nat} {x1 : Int32} {x2 : Int32} {x3 : Int32} {x4 : Int32} {x5 : Int32} {x6 : Int32} {g : ps_G} {x : (Int32 × ps_G) ⊕ (ps_G)} (h : bX12_scale_62 x0 x1 x2 x3 x4 x5 x6 g = some x) (hh : ∀ s' : Int32 × ps_G, x = .inl s' → ps_At mX12_scale (d + 4) 62 [(0, .ref x0), (1, .int x1), (2, .int x2), (3, .int x3), (4, .int x4), (5, .int x5), (6, .int s'.1)] [] s'.2 Q) (he : ∀ r' : ps_G, x = .inr r' → ps_At mX12_scale (d + 4) 169 [(0, .ref x0), (1, .int x1), (2, .int x2), (3, .int x3), (4, .int x4), (5, .int x5)] [] r' Q) : ps_At mX12_scale (d + 4) 62 [(0, .ref x0), (1, .int x1), (2, .int x2), (3, .int x3), (4, .int x4), (5, .int x5), (6, .int x6)] [] g Q := by
  unfold bX12_scale_62 at h
  refine sX12_scale_62 ?_
  replace h := q_be h
  obtain ⟨v11, hv, h⟩ := h
  replace hv := q_fI_e hv
  obtain ⟨_, cv11, dv11⟩ := hv
  refine ⟨⟨some _, rfl⟩, _, _, cv11, dv11, ?_⟩
  refine And.intro (fun hc12 => ?_) (fun hc12 => ?_)
  · replace h := q_ifp (hc12) h
    exact ps_weak (he g (Option.some.inj h).symm) ⟨rfl, rfl, rfl, rfl, rfl, rfl, trivial⟩
  · replace h := q_ifn (hc12) h
    refine And.intro (fun hc15 => ?_) (fun hc15 => ?_)
    · replace h := q_ifp (hc15) h
      refine sX12_scale_115 ?_
      replace h := q_be h
      obtain ⟨v17, hv, h⟩ := h
      replace hv := q_div_e hv
      obtain ⟨zv17, yv17⟩ := hv
      replace h := q_be h
      obtain ⟨v18, hv, h⟩ := h
      replace hv := q_div_e hv
      obtain ⟨zv18, yv18⟩ := hv
      replace h := q_be h
      obtain ⟨u19, hv, h⟩ := h
      replace hv := q_ob_e hv
      obtain ⟨_, cu19⟩ := hv
      replace h := q_be h
      obtain ⟨v20, hv, h⟩ := h
      refine ⟨⟨some _, rfl⟩, zv17, _, yv17, zv18, _, yv18, ⟨_, cu19⟩, ?_⟩
      refine rX12_beforeAt hv ?_
      exact ps_weak (pjX12_scale_143_62 h hh he) ⟨rfl, rfl, rfl, rfl, rfl, rfl, rfl, trivial⟩
    · replace h := q_ifn (hc15) h
      replace h := q_be h
      obtain ⟨v25, hv, h⟩ := h
      replace hv := q_div_e hv
      obtain ⟨zv25, yv25⟩ := hv
      replace h := q_be h
      obtain ⟨v26, hv, h⟩ := h
      replace hv := q_div_e hv
      obtain ⟨zv26, yv26⟩ := hv
      replace h := q_be h
      obtain ⟨u27, hv, h⟩ := h
      replace hv := q_ob_e hv
      obtain ⟨_, cu27⟩ := hv
      replace h := q_be h
      obtain ⟨v28, hv, h⟩ := h
      refine ⟨⟨some _, rfl⟩, zv25, _, yv25, zv26, _, yv26, ⟨_, cu27⟩, ?_⟩
      refine rX12_four hv ?_
      exact ps_weak (pjX12_scale_143_62 h hh he) ⟨rfl, rfl, rfl, rfl, rfl, rfl, rfl, trivial⟩
noncomputable def bX12_scale_50 (x0 : Nat) (x1 : Int32) (x2 : Int32) (x3 : Int32) (x4 : Int32) (x5 : Int32) (g : ps_G) : Option ((Int32 × ps_G) ⊕ (ps_G)) := Option.bind (q_fI 12 14 g x0) fun v9 => if v9 ≤ x5 then (some (.inr g)) else (Option.bind (q_lp (fun s => bX12_scale_62 x0 x1 x2 x3 x4 x5 s.1 s.2) ((0 : Int32), g)) fun s33 => some (.inl (x5 + (1 : Int32), s33)))
theorem pbX12_scale_50 {d : Nat} {Q : ps_Rs → ps_G → Prop}  {x0 : Nat} {x1 : Int32} {x2 : Int32} {x3 : Int32} {x4 : Int32} {x5 : Int32} {g : ps_G} {x : (Int32 × ps_G) ⊕ (ps_G)} (h : bX12_scale_50 x0 x1 x2 x3 x4 x5 g = some x) (hh : ∀ s' : Int32 × ps_G, x = .inl s' → ps_At mX12_scale (d + 4) 50 [(0, .ref x0), (1, .int x1), (2, .int x2), (3, .int x3), (4, .int x4), (5, .int s'.1)] [] s'.2 Q) (he : ∀ r' : ps_G, x = .inr r' → ps_At mX12_scale (d + 4) 175 [(0, .ref x0)] [] r' Q) : ps_At mX12_scale (d + 4) 50 [(0, .ref x0), (1, .int x1), (2, .int x2), (3, .int x3), (4, .int x4), (5, .int x5)] [] g Q := by
  unfold bX12_scale_50 at h
  refine sX12_scale_50 ?_
  replace h := q_be h
  obtain ⟨v9, hv, h⟩ := h
  replace hv := q_fI_e hv
  obtain ⟨_, cv9, dv9⟩ := hv
  refine ⟨⟨some _, rfl⟩, _, _, cv9, dv9, ?_⟩
  refine And.intro (fun hc10 => ?_) (fun hc10 => ?_)
  · replace h := q_ifp (hc10) h
    exact ps_weak (he g (Option.some.inj h).symm) ⟨rfl, trivial⟩
  · replace h := q_ifn (hc10) h
    refine ⟨by decide, ?_⟩
    replace h := q_be h
    obtain ⟨s33, hl, h⟩ := h
    refine ps_weak (q_lp_ok hl (fun s => ps_At mX12_scale (d + 4) 62 [(0, .ref x0), (1, .int x1), (2, .int x2), (3, .int x3), (4, .int x4), (5, .int x5), (6, .int s.1)] [] s.2 Q) (fun r => ps_At mX12_scale (d + 4) 169 [(0, .ref x0), (1, .int x1), (2, .int x2), (3, .int x3), (4, .int x4), (5, .int x5)] [] r Q) (fun s x hb hh he => pbX12_scale_62 hb hh he) ?_) ⟨rfl, rfl, rfl, rfl, rfl, rfl, rfl, trivial⟩
    refine (?_ : ps_At mX12_scale (d + 4) 169 [(0, .ref x0), (1, .int x1), (2, .int x2), (3, .int x3), (4, .int x4), (5, .int x5)] [] s33 Q)
    refine sX12_scale_169 ?_
    refine ⟨by decide, ?_⟩
    exact ps_weak (hh (x5 + (1 : Int32), s33) (Option.some.inj h).symm) ⟨rfl, rfl, rfl, rfl, rfl, rfl, trivial⟩
noncomputable def jX12_scale_28 (g : ps_G) (x0 : Nat) (x1 : Int32) (x2 : Int32) (x3 : Int32) (x4 : Int32) (k0 : Nat) (k1 : Nat) (k2 : Int32) (k3 : Int32) : Option (ps_G) := Option.bind (q_ob 12 g k1) fun u2 => Option.bind (fX12_why g k1 k2 k3) fun v3 => Option.bind (q_sI 12 0 g k0 v3) fun g4 => Option.bind (q_fI 12 0 g4 x0) fun v5 => if v5 ≤ 0 then (Option.bind (q_ob 12 g4 x0) fun u7 => Option.bind (fX12_begin g4 x0 x1) fun v8 => Option.bind (q_lp (fun s => bX12_scale_50 x0 x1 x2 x3 x4 s.1 s.2) ((0 : Int32), v8)) fun s36 => Option.bind (q_ob 12 s36 x0) fun u37 => Option.bind (fX12_edited s36 x0) fun v38 => Option.bind (q_ob 12 v38 x0) fun u39 => Option.bind (fX12_forget v38 x0) fun v40 => some v40) else (some g4)
theorem pjX12_scale_28 {d : Nat} {Q : ps_Rs → ps_G → Prop} {g : ps_G} {x0 : Nat} {x1 : Int32} {x2 : Int32} {x3 : Int32} {x4 : Int32} {k0 : Nat} {k1 : Nat} {k2 : Int32} {k3 : Int32} {r : ps_G} (h : jX12_scale_28 g x0 x1 x2 x3 x4 k0 k1 k2 k3 = some r) (hk : Q (.inl none) r) : ps_At mX12_scale (d + 4) 28 [(0, .ref x0), (1, .int x1), (2, .int x2), (3, .int x3), (4, .int x4)] [.int k3, .int k2, .ref k1, .ref k0] g Q := by
  unfold jX12_scale_28 at h
  refine sX12_scale_28 ?_
  replace h := q_be h
  obtain ⟨u2, hv, h⟩ := h
  replace hv := q_ob_e hv
  obtain ⟨_, cu2⟩ := hv
  replace h := q_be h
  obtain ⟨v3, hv, h⟩ := h
  refine ⟨⟨_, cu2⟩, ?_⟩
  refine rX12_why hv ?_
  replace h := q_be h
  obtain ⟨g4, hv, h⟩ := h
  replace hv := q_sI_e hv
  obtain ⟨_, cg4, dg4, yg4⟩ := hv
  replace h := q_be h
  obtain ⟨v5, hv, h⟩ := h
  replace hv := q_fI_e hv
  obtain ⟨_, cv5, dv5⟩ := hv
  refine ⟨_, cg4, dg4, rfl, rfl, _, yg4, ⟨some _, rfl⟩, _, _, cv5, dv5, ?_⟩
  refine And.intro (fun hc6 => ?_) (fun hc6 => ?_)
  · replace h := q_ifp (hc6) h
    refine sX12_scale_42 ?_
    replace h := q_be h
    obtain ⟨u7, hv, h⟩ := h
    replace hv := q_ob_e hv
    obtain ⟨_, cu7⟩ := hv
    replace h := q_be h
    obtain ⟨v8, hv, h⟩ := h
    refine ⟨⟨some _, rfl⟩, ⟨_, cu7⟩, ?_⟩
    refine rX12_begin hv ?_
    refine ⟨by decide, ?_⟩
    replace h := q_be h
    obtain ⟨s36, hl, h⟩ := h
    refine ps_weak (q_lp_ok hl (fun s => ps_At mX12_scale (d + 4) 50 [(0, .ref x0), (1, .int x1), (2, .int x2), (3, .int x3), (4, .int x4), (5, .int s.1)] [] s.2 Q) (fun r => ps_At mX12_scale (d + 4) 175 [(0, .ref x0)] [] r Q) (fun s x hb hh he => pbX12_scale_50 hb hh he) ?_) ⟨rfl, rfl, rfl, rfl, rfl, rfl, trivial⟩
    refine (?_ : ps_At mX12_scale (d + 4) 175 [(0, .ref x0)] [] s36 Q)
    refine sX12_scale_175 ?_
    replace h := q_be h
    obtain ⟨u37, hv, h⟩ := h
    replace hv := q_ob_e hv
    obtain ⟨_, cu37⟩ := hv
    replace h := q_be h
    obtain ⟨v38, hv, h⟩ := h
    refine ⟨⟨some _, rfl⟩, ⟨_, cu37⟩, ?_⟩
    refine rX12_edited hv ?_
    replace h := q_be h
    obtain ⟨u39, hv, h⟩ := h
    replace hv := q_ob_e hv
    obtain ⟨_, cu39⟩ := hv
    replace h := q_be h
    obtain ⟨v40, hv, h⟩ := h
    refine ⟨⟨some _, rfl⟩, ⟨_, cu39⟩, ?_⟩
    refine rX12_forget hv ?_
    cases h
    exact ⟨rfl, rfl, hk⟩
  · replace h := q_ifn (hc6) h
    cases h
    exact ⟨rfl, rfl, hk⟩
noncomputable def jX12_scale_27 (g : ps_G) (x0 : Nat) (x1 : Int32) (x2 : Int32) (x3 : Int32) (x4 : Int32) (k0 : Nat) (k1 : Nat) (k2 : Int32) : Option (ps_G) := jX12_scale_28 g x0 x1 x2 x3 x4 k0 k1 k2 (0 : Int32)
theorem pjX12_scale_27 {d : Nat} {Q : ps_Rs → ps_G → Prop} {g : ps_G} {x0 : Nat} {x1 : Int32} {x2 : Int32} {x3 : Int32} {x4 : Int32} {k0 : Nat} {k1 : Nat} {k2 : Int32} {r : ps_G} (h : jX12_scale_27 g x0 x1 x2 x3 x4 k0 k1 k2 = some r) (hk : Q (.inl none) r) : ps_At mX12_scale (d + 4) 27 [(0, .ref x0), (1, .int x1), (2, .int x2), (3, .int x3), (4, .int x4)] [.int k2, .ref k1, .ref k0] g Q := by
  unfold jX12_scale_27 at h
  refine sX12_scale_27 ?_
  exact ps_weak (pjX12_scale_28 h hk) ⟨rfl, rfl, rfl, rfl, rfl, trivial⟩
noncomputable def fX12_scale (g : ps_G) (x0 : Nat) (x1 : Int32) (x2 : Int32) (x3 : Int32) (x4 : Int32) : Option (ps_G) := if (fX12_in x2 (1 : Int32) (16 : Int32)) = 0 then (jX12_scale_27 g x0 x1 x2 x3 x4 x0 x0 x1) else (if (fX12_in x3 (1 : Int32) (16 : Int32)) = 0 then (jX12_scale_27 g x0 x1 x2 x3 x4 x0 x0 x1) else (jX12_scale_28 g x0 x1 x2 x3 x4 x0 x0 x1 (1 : Int32)))
theorem rX12_scale {d : Nat} {Q : ps_Rs → ps_G → Prop} {g : ps_G} {x0 : Nat} {x1 : Int32} {x2 : Int32} {x3 : Int32} {x4 : Int32} {r : ps_G} (h : fX12_scale g x0 x1 x2 x3 x4 = some r) (hk : Q (.inl none) r) : ps_Ok mX12_scale (d + 4) [.ref x0, .int x1, .int x2, .int x3, .int x4] g Q := by
  unfold fX12_scale at h
  refine sX12_scale_0 ?_
  refine ⟨⟨some _, rfl⟩, ⟨some _, rfl⟩, ?_⟩
  refine rX12_in rfl ?_
  refine And.intro (fun hc1 => ?_) (fun hc1 => ?_)
  · replace h := q_ifp (hc1) h
    exact ps_weak (pjX12_scale_27 h hk) ⟨rfl, rfl, rfl, rfl, rfl, trivial⟩
  · replace h := q_ifn (hc1) h
    refine rX12_in rfl ?_
    refine And.intro (fun hc43 => ?_) (fun hc43 => ?_)
    · replace h := q_ifp (hc43) h
      exact ps_weak (pjX12_scale_27 h hk) ⟨rfl, rfl, rfl, rfl, rfl, trivial⟩
    · replace h := q_ifn (hc43) h
      exact ps_weak (pjX12_scale_28 h hk) ⟨rfl, rfl, rfl, rfl, rfl, trivial⟩
noncomputable def jX12_becomePixels_40_2 (g : ps_G) (x0 : Nat) (x1 : Int32) (x2 : Int32) (k0 : Option Nat) (k1 : Int32) (k2 : Int32) : Option ((Int32 × ps_G) ⊕ (ps_G)) := Option.bind (k0) fun a9 => Option.bind (q_wB g a9 k1 k2) fun g10 => some (.inl (x2 + (1 : Int32), g10))
theorem pjX12_becomePixels_40_2 {d : Nat} {Q : ps_Rs → ps_G → Prop} {g : ps_G} {x0 : Nat} {x1 : Int32} {x2 : Int32} {k0 : Option Nat} {k1 : Int32} {k2 : Int32} {x : (Int32 × ps_G) ⊕ (ps_G)} (h : jX12_becomePixels_40_2 g x0 x1 x2 k0 k1 k2 = some x) (hh : ∀ s' : Int32 × ps_G, x = .inl s' → ps_At mX12_becomePixels (d + 2) 2 [(0, .ref x0), (1, .int x1), (2, .int s'.1)] [] s'.2 Q) (he : ∀ r' : ps_G, x = .inr r' → ps_At mX12_becomePixels (d + 2) 47 [(0, .ref x0), (1, .int x1)] [] r' Q) : ps_At mX12_becomePixels (d + 2) 40 [(0, .ref x0), (1, .int x1), (2, .int x2)] [.int k2, .int k1, va_rf k0] g Q := by
  unfold jX12_becomePixels_40_2 at h
  refine sX12_becomePixels_40 ?_
  replace h := q_be h
  obtain ⟨a9, ea9, h⟩ := h
  subst ea9
  replace h := q_be h
  obtain ⟨g10, hv, h⟩ := h
  replace hv := q_wB_e hv
  obtain ⟨_, _, cg10, ig10, yg10⟩ := hv
  refine ⟨_, _, cg10, ig10, _, yg10, by decide, ?_⟩
  exact ps_weak (hh (x2 + (1 : Int32), g10) (Option.some.inj h).symm) ⟨rfl, rfl, rfl, trivial⟩
noncomputable def jX12_becomePixels_39_2 (g : ps_G) (x0 : Nat) (x1 : Int32) (x2 : Int32) (k0 : Option Nat) (k1 : Int32) : Option ((Int32 × ps_G) ⊕ (ps_G)) := jX12_becomePixels_40_2 g x0 x1 x2 k0 k1 (0 : Int32)
theorem pjX12_becomePixels_39_2 {d : Nat} {Q : ps_Rs → ps_G → Prop} {g : ps_G} {x0 : Nat} {x1 : Int32} {x2 : Int32} {k0 : Option Nat} {k1 : Int32} {x : (Int32 × ps_G) ⊕ (ps_G)} (h : jX12_becomePixels_39_2 g x0 x1 x2 k0 k1 = some x) (hh : ∀ s' : Int32 × ps_G, x = .inl s' → ps_At mX12_becomePixels (d + 2) 2 [(0, .ref x0), (1, .int x1), (2, .int s'.1)] [] s'.2 Q) (he : ∀ r' : ps_G, x = .inr r' → ps_At mX12_becomePixels (d + 2) 47 [(0, .ref x0), (1, .int x1)] [] r' Q) : ps_At mX12_becomePixels (d + 2) 39 [(0, .ref x0), (1, .int x1), (2, .int x2)] [.int k1, va_rf k0] g Q := by
  unfold jX12_becomePixels_39_2 at h
  refine sX12_becomePixels_39 ?_
  exact ps_weak (pjX12_becomePixels_40_2 h hh he) ⟨rfl, rfl, rfl, trivial⟩
noncomputable def bX12_becomePixels_2 (x0 : Nat) (x1 : Int32) (x2 : Int32) (g : ps_G) : Option ((Int32 × ps_G) ⊕ (ps_G)) := if (30 : Int32) ≤ x2 then (some (.inr g)) else (Option.bind (q_fR 12 15 g x0) fun v3 => Option.bind (v3) fun a4 => Option.bind (q_ob 12 g x0) fun u5 => Option.bind (fX12_isLayer g x0 x2) fun v6 => if (v6 = 0) ∨ (x2 = x1) then (jX12_becomePixels_39_2 g x0 x1 x2 (some a4) x2) else (Option.bind (q_ob 12 g x0) fun u11 => Option.bind (fX12_isIn g x0 x2 x1) fun v12 => if v12 = 0 then (jX12_becomePixels_39_2 g x0 x1 x2 (some a4) x2) else (jX12_becomePixels_40_2 g x0 x1 x2 (some a4) x2 (1 : Int32))))
theorem pbX12_becomePixels_2 {d : Nat} {Q : ps_Rs → ps_G → Prop}  {x0 : Nat} {x1 : Int32} {x2 : Int32} {g : ps_G} {x : (Int32 × ps_G) ⊕ (ps_G)} (h : bX12_becomePixels_2 x0 x1 x2 g = some x) (hh : ∀ s' : Int32 × ps_G, x = .inl s' → ps_At mX12_becomePixels (d + 2) 2 [(0, .ref x0), (1, .int x1), (2, .int s'.1)] [] s'.2 Q) (he : ∀ r' : ps_G, x = .inr r' → ps_At mX12_becomePixels (d + 2) 47 [(0, .ref x0), (1, .int x1)] [] r' Q) : ps_At mX12_becomePixels (d + 2) 2 [(0, .ref x0), (1, .int x1), (2, .int x2)] [] g Q := by
  unfold bX12_becomePixels_2 at h
  refine sX12_becomePixels_2 ?_
  refine And.intro (fun hc1 => ?_) (fun hc1 => ?_)
  · replace h := q_ifp (hc1) h
    exact ps_weak (he g (Option.some.inj h).symm) ⟨rfl, rfl, trivial⟩
  · replace h := q_ifn (hc1) h
    replace h := q_be h
    obtain ⟨v3, hv, h⟩ := h
    replace hv := q_fR_e hv
    obtain ⟨_, cv3, dv3⟩ := hv
    replace h := q_be h
    obtain ⟨a4, ea4, h⟩ := h
    subst ea4
    replace h := q_be h
    obtain ⟨u5, hv, h⟩ := h
    replace hv := q_ob_e hv
    obtain ⟨_, cu5⟩ := hv
    replace h := q_be h
    obtain ⟨v6, hv, h⟩ := h
    refine ⟨⟨some _, rfl⟩, _, _, cv3, dv3, ⟨some _, rfl⟩, ⟨_, cu5⟩, ?_⟩
    refine rX12_isLayer hv ?_
    have kT16 : (jX12_becomePixels_39_2 g x0 x1 x2 (some a4) x2) = some x → ps_At mX12_becomePixels (d + 2) 39 [(0, .ref x0), (1, .int x1), (2, .int x2)] [.int x2, .ref a4] g Q := fun h => by
      exact ps_weak (pjX12_becomePixels_39_2 h hh he) ⟨rfl, rfl, rfl, trivial⟩
    refine And.intro (fun hc7 => ?_) (fun hc7 => ?_)
    · exact ps_weak (kT16 (q_ifp (Or.inl hc7) h)) ⟨rfl, rfl, rfl, trivial⟩
    · refine And.intro (fun hc8 => ?_) (fun hc8 => ?_)
      · exact ps_weak (kT16 (q_ifp (Or.inr (hc8)) h)) ⟨rfl, rfl, rfl, trivial⟩
      · replace h := q_ifn (not_or.mpr ⟨hc7, hc8⟩) h
        replace h := q_be h
        obtain ⟨u11, hv, h⟩ := h
        replace hv := q_ob_e hv
        obtain ⟨_, cu11⟩ := hv
        replace h := q_be h
        obtain ⟨v12, hv, h⟩ := h
        refine ⟨⟨some _, rfl⟩, ⟨_, cu11⟩, ?_⟩
        refine rX12_isIn hv ?_
        refine And.intro (fun hc13 => ?_) (fun hc13 => ?_)
        · replace h := q_ifp (hc13) h
          exact ps_weak (pjX12_becomePixels_39_2 h hh he) ⟨rfl, rfl, rfl, trivial⟩
        · replace h := q_ifn (hc13) h
          exact ps_weak (pjX12_becomePixels_40_2 h hh he) ⟨rfl, rfl, rfl, trivial⟩
noncomputable def jX12_becomePixels_71_49 (g : ps_G) (x0 : Nat) (x1 : Int32) (x2 : Int32) : Option ((Int32 × ps_G) ⊕ (ps_G)) := some (.inl (x2 + (1 : Int32), g))
theorem pjX12_becomePixels_71_49 {d : Nat} {Q : ps_Rs → ps_G → Prop} {g : ps_G} {x0 : Nat} {x1 : Int32} {x2 : Int32} {x : (Int32 × ps_G) ⊕ (ps_G)} (h : jX12_becomePixels_71_49 g x0 x1 x2 = some x) (hh : ∀ s' : Int32 × ps_G, x = .inl s' → ps_At mX12_becomePixels (d + 2) 49 [(0, .ref x0), (1, .int x1), (2, .int s'.1)] [] s'.2 Q) (he : ∀ r' : ps_G, x = .inr r' → ps_At mX12_becomePixels (d + 2) 77 [(0, .ref x0), (1, .int x1)] [] r' Q) : ps_At mX12_becomePixels (d + 2) 71 [(0, .ref x0), (1, .int x1), (2, .int x2)] [] g Q := by
  unfold jX12_becomePixels_71_49 at h
  refine sX12_becomePixels_71 ?_
  refine ⟨by decide, ?_⟩
  exact ps_weak (hh (x2 + (1 : Int32), g) (Option.some.inj h).symm) ⟨rfl, rfl, rfl, trivial⟩
noncomputable def bX12_becomePixels_49 (x0 : Nat) (x1 : Int32) (x2 : Int32) (g : ps_G) : Option ((Int32 × ps_G) ⊕ (ps_G)) := if (30 : Int32) ≤ x2 then (some (.inr g)) else (Option.bind (q_fR 12 15 g x0) fun v23 => Option.bind (v23) fun a24 => Option.bind (q_aB g a24 x2) fun v25 => if v25 = 0 then (jX12_becomePixels_71_49 g x0 x1 x2) else (Option.bind (q_ob 12 g x0) fun u28 => Option.bind (fX12_put g x0 x2 (0 : Int32) (0 : Int32)) fun v29 => jX12_becomePixels_71_49 v29 x0 x1 x2))
theorem pbX12_becomePixels_49 {d : Nat} {Q : ps_Rs → ps_G → Prop}  {x0 : Nat} {x1 : Int32} {x2 : Int32} {g : ps_G} {x : (Int32 × ps_G) ⊕ (ps_G)} (h : bX12_becomePixels_49 x0 x1 x2 g = some x) (hh : ∀ s' : Int32 × ps_G, x = .inl s' → ps_At mX12_becomePixels (d + 2) 49 [(0, .ref x0), (1, .int x1), (2, .int s'.1)] [] s'.2 Q) (he : ∀ r' : ps_G, x = .inr r' → ps_At mX12_becomePixels (d + 2) 77 [(0, .ref x0), (1, .int x1)] [] r' Q) : ps_At mX12_becomePixels (d + 2) 49 [(0, .ref x0), (1, .int x1), (2, .int x2)] [] g Q := by
  unfold bX12_becomePixels_49 at h
  refine sX12_becomePixels_49 ?_
  refine And.intro (fun hc21 => ?_) (fun hc21 => ?_)
  · replace h := q_ifp (hc21) h
    exact ps_weak (he g (Option.some.inj h).symm) ⟨rfl, rfl, trivial⟩
  · replace h := q_ifn (hc21) h
    replace h := q_be h
    obtain ⟨v23, hv, h⟩ := h
    replace hv := q_fR_e hv
    obtain ⟨_, cv23, dv23⟩ := hv
    replace h := q_be h
    obtain ⟨a24, ea24, h⟩ := h
    subst ea24
    replace h := q_be h
    obtain ⟨v25, hv, h⟩ := h
    replace hv := q_aB_e hv
    obtain ⟨_, _, cv25, iv25, yv25⟩ := hv
    refine ⟨⟨some _, rfl⟩, _, _, cv23, dv23, _, _, cv25, iv25, _, yv25, ?_⟩
    refine And.intro (fun hc26 => ?_) (fun hc26 => ?_)
    · replace h := q_ifp (hc26) h
      exact ps_weak (pjX12_becomePixels_71_49 h hh he) ⟨rfl, rfl, rfl, trivial⟩
    · replace h := q_ifn (hc26) h
      replace h := q_be h
      obtain ⟨u28, hv, h⟩ := h
      replace hv := q_ob_e hv
      obtain ⟨_, cu28⟩ := hv
      replace h := q_be h
      obtain ⟨v29, hv, h⟩ := h
      refine ⟨⟨some _, rfl⟩, ⟨_, cu28⟩, ?_⟩
      refine rX12_put hv ?_
      exact ps_weak (pjX12_becomePixels_71_49 h hh he) ⟨rfl, rfl, rfl, trivial⟩
noncomputable def jX12_becomePixels_135_86 (g : ps_G) (x0 : Nat) (x1 : Int32) (x2 : Int32) (k0 : Nat) (k1 : Int32) (k2 : Int32) (k3 : Int32) : Option ((Int32 × ps_G) ⊕ (ps_G)) := Option.bind (q_ob 12 g k0) fun u43 => Option.bind (fX12_put g k0 k1 k2 k3) fun v44 => some (.inl (x2 + (1 : Int32), v44))
theorem pjX12_becomePixels_135_86 {d : Nat} {Q : ps_Rs → ps_G → Prop} {g : ps_G} {x0 : Nat} {x1 : Int32} {x2 : Int32} {k0 : Nat} {k1 : Int32} {k2 : Int32} {k3 : Int32} {x : (Int32 × ps_G) ⊕ (ps_G)} (h : jX12_becomePixels_135_86 g x0 x1 x2 k0 k1 k2 k3 = some x) (hh : ∀ s' : Int32 × ps_G, x = .inl s' → ps_At mX12_becomePixels (d + 2) 86 [(0, .ref x0), (1, .int x1), (2, .int s'.1)] [] s'.2 Q) (he : ∀ r' : ps_G, x = .inr r' → ps_At mX12_becomePixels (d + 2) 144 [(0, .ref x0), (1, .int x1)] [] r' Q) : ps_At mX12_becomePixels (d + 2) 135 [(0, .ref x0), (1, .int x1), (2, .int x2)] [.int k3, .int k2, .int k1, .ref k0] g Q := by
  unfold jX12_becomePixels_135_86 at h
  refine sX12_becomePixels_135 ?_
  replace h := q_be h
  obtain ⟨u43, hv, h⟩ := h
  replace hv := q_ob_e hv
  obtain ⟨_, cu43⟩ := hv
  replace h := q_be h
  obtain ⟨v44, hv, h⟩ := h
  refine ⟨⟨_, cu43⟩, ?_⟩
  refine rX12_put hv ?_
  refine ⟨by decide, ?_⟩
  exact ps_weak (hh (x2 + (1 : Int32), v44) (Option.some.inj h).symm) ⟨rfl, rfl, rfl, trivial⟩
noncomputable def bX12_becomePixels_86 (x0 : Nat) (x1 : Int32) (x2 : Int32) (g : ps_G) : Option ((Int32 × ps_G) ⊕ (ps_G)) := if (576 : Int32) ≤ x2 then (some (.inr g)) else (Option.bind (q_fI 12 13 g x0) fun v39 => Option.bind (q_fI 12 14 g x0) fun v40 => if (v39 * v40) ≤ x2 then (jX12_becomePixels_135_86 g x0 x1 x2 x0 x1 ((17 : Int32) + x2) (0 : Int32)) else (Option.bind (q_fR 12 16 g x0) fun v45 => Option.bind (v45) fun a46 => Option.bind (q_ob 12 g x0) fun u47 => Option.bind (fX12_get g x0 x1 (2 : Int32)) fun v48 => Option.bind (q_aI g a46 (((576 : Int32) * (v48 + (1 : Int32))) + x2)) fun v49 => jX12_becomePixels_135_86 g x0 x1 x2 x0 x1 ((17 : Int32) + x2) v49))
theorem pbX12_becomePixels_86 {d : Nat} {Q : ps_Rs → ps_G → Prop}  {x0 : Nat} {x1 : Int32} {x2 : Int32} {g : ps_G} {x : (Int32 × ps_G) ⊕ (ps_G)} (h : bX12_becomePixels_86 x0 x1 x2 g = some x) (hh : ∀ s' : Int32 × ps_G, x = .inl s' → ps_At mX12_becomePixels (d + 2) 86 [(0, .ref x0), (1, .int x1), (2, .int s'.1)] [] s'.2 Q) (he : ∀ r' : ps_G, x = .inr r' → ps_At mX12_becomePixels (d + 2) 144 [(0, .ref x0), (1, .int x1)] [] r' Q) : ps_At mX12_becomePixels (d + 2) 86 [(0, .ref x0), (1, .int x1), (2, .int x2)] [] g Q := by
  unfold bX12_becomePixels_86 at h
  refine sX12_becomePixels_86 ?_
  refine And.intro (fun hc37 => ?_) (fun hc37 => ?_)
  · replace h := q_ifp (hc37) h
    exact ps_weak (he g (Option.some.inj h).symm) ⟨rfl, rfl, trivial⟩
  · replace h := q_ifn (hc37) h
    replace h := q_be h
    obtain ⟨v39, hv, h⟩ := h
    replace hv := q_fI_e hv
    obtain ⟨_, cv39, dv39⟩ := hv
    replace h := q_be h
    obtain ⟨v40, hv, h⟩ := h
    replace hv := q_fI_e hv
    obtain ⟨_, cv40, dv40⟩ := hv
    refine ⟨⟨some _, rfl⟩, ⟨some _, rfl⟩, _, _, cv39, dv39, ⟨some _, rfl⟩, _, _, cv40, dv40, ?_⟩
    refine And.intro (fun hc41 => ?_) (fun hc41 => ?_)
    · replace h := q_ifp (hc41) h
      refine sX12_becomePixels_134 ?_
      exact ps_weak (pjX12_becomePixels_135_86 h hh he) ⟨rfl, rfl, rfl, trivial⟩
    · replace h := q_ifn (hc41) h
      replace h := q_be h
      obtain ⟨v45, hv, h⟩ := h
      replace hv := q_fR_e hv
      obtain ⟨_, cv45, dv45⟩ := hv
      replace h := q_be h
      obtain ⟨a46, ea46, h⟩ := h
      subst ea46
      replace h := q_be h
      obtain ⟨u47, hv, h⟩ := h
      replace hv := q_ob_e hv
      obtain ⟨_, cu47⟩ := hv
      replace h := q_be h
      obtain ⟨v48, hv, h⟩ := h
      refine ⟨⟨some _, rfl⟩, _, _, cv45, dv45, ⟨some _, rfl⟩, ⟨_, cu47⟩, ?_⟩
      refine rX12_get hv ?_
      replace h := q_be h
      obtain ⟨v49, hv, h⟩ := h
      replace hv := q_aI_e hv
      obtain ⟨_, _, cv49, iv49, yv49⟩ := hv
      refine ⟨_, _, cv49, iv49, _, yv49, ?_⟩
      exact ps_weak (pjX12_becomePixels_135_86 h hh he) ⟨rfl, rfl, rfl, trivial⟩
noncomputable def bX12_becomePixels_146 (x0 : Nat) (x1 : Int32) (x2 : Int32) (g : ps_G) : Option ((Int32 × ps_G) ⊕ (ps_G)) := if (576 : Int32) ≤ x2 then (some (.inr g)) else (Option.bind (q_ob 12 g x0) fun u57 => Option.bind (fX12_put g x0 x1 ((593 : Int32) + x2) (0 : Int32)) fun v58 => some (.inl (x2 + (1 : Int32), v58)))
theorem pbX12_becomePixels_146 {d : Nat} {Q : ps_Rs → ps_G → Prop}  {x0 : Nat} {x1 : Int32} {x2 : Int32} {g : ps_G} {x : (Int32 × ps_G) ⊕ (ps_G)} (h : bX12_becomePixels_146 x0 x1 x2 g = some x) (hh : ∀ s' : Int32 × ps_G, x = .inl s' → ps_At mX12_becomePixels (d + 2) 146 [(0, .ref x0), (1, .int x1), (2, .int s'.1)] [] s'.2 Q) (he : ∀ r' : ps_G, x = .inr r' → ps_At mX12_becomePixels (d + 2) 170 [(0, .ref x0), (1, .int x1)] [] r' Q) : ps_At mX12_becomePixels (d + 2) 146 [(0, .ref x0), (1, .int x1), (2, .int x2)] [] g Q := by
  unfold bX12_becomePixels_146 at h
  refine sX12_becomePixels_146 ?_
  refine And.intro (fun hc55 => ?_) (fun hc55 => ?_)
  · replace h := q_ifp (hc55) h
    exact ps_weak (he g (Option.some.inj h).symm) ⟨rfl, rfl, trivial⟩
  · replace h := q_ifn (hc55) h
    replace h := q_be h
    obtain ⟨u57, hv, h⟩ := h
    replace hv := q_ob_e hv
    obtain ⟨_, cu57⟩ := hv
    replace h := q_be h
    obtain ⟨v58, hv, h⟩ := h
    refine ⟨⟨some _, rfl⟩, ⟨_, cu57⟩, ?_⟩
    refine rX12_put hv ?_
    refine ⟨by decide, ?_⟩
    exact ps_weak (hh (x2 + (1 : Int32), v58) (Option.some.inj h).symm) ⟨rfl, rfl, rfl, trivial⟩
noncomputable def bX12_becomePixels_197 (x0 : Nat) (x1 : Int32) (x2 : Int32) (g : ps_G) : Option ((Int32 × ps_G) ⊕ (ps_G)) := if (9 : Int32) < x2 then (some (.inr g)) else (Option.bind (q_ob 12 g x0) fun u70 => Option.bind (fX12_put g x0 x1 x2 (0 : Int32)) fun v71 => some (.inl (x2 + (1 : Int32), v71)))
theorem pbX12_becomePixels_197 {d : Nat} {Q : ps_Rs → ps_G → Prop}  {x0 : Nat} {x1 : Int32} {x2 : Int32} {g : ps_G} {x : (Int32 × ps_G) ⊕ (ps_G)} (h : bX12_becomePixels_197 x0 x1 x2 g = some x) (hh : ∀ s' : Int32 × ps_G, x = .inl s' → ps_At mX12_becomePixels (d + 2) 197 [(0, .ref x0), (1, .int x1), (2, .int s'.1)] [] s'.2 Q) (he : ∀ r' : ps_G, x = .inr r' → ps_At mX12_becomePixels (d + 2) 216 [(0, .ref x0), (1, .int x1)] [] r' Q) : ps_At mX12_becomePixels (d + 2) 197 [(0, .ref x0), (1, .int x1), (2, .int x2)] [] g Q := by
  unfold bX12_becomePixels_197 at h
  refine sX12_becomePixels_197 ?_
  refine And.intro (fun hc68 => ?_) (fun hc68 => ?_)
  · replace h := q_ifp (hc68) h
    exact ps_weak (he g (Option.some.inj h).symm) ⟨rfl, rfl, trivial⟩
  · replace h := q_ifn (hc68) h
    replace h := q_be h
    obtain ⟨u70, hv, h⟩ := h
    replace hv := q_ob_e hv
    obtain ⟨_, cu70⟩ := hv
    replace h := q_be h
    obtain ⟨v71, hv, h⟩ := h
    refine ⟨⟨some _, rfl⟩, ⟨_, cu70⟩, ?_⟩
    refine rX12_put hv ?_
    refine ⟨by decide, ?_⟩
    exact ps_weak (hh (x2 + (1 : Int32), v71) (Option.some.inj h).symm) ⟨rfl, rfl, rfl, trivial⟩
noncomputable def bX12_becomePixels_219 (x0 : Nat) (x1 : Int32) (x2 : Int32) (g : ps_G) : Option ((Int32 × ps_G) ⊕ (ps_G)) := if (17 : Int32) ≤ x2 then (some (.inr g)) else (Option.bind (q_ob 12 g x0) fun u77 => Option.bind (fX12_put g x0 x1 x2 (0 : Int32)) fun v78 => some (.inl (x2 + (1 : Int32), v78)))
theorem pbX12_becomePixels_219 {d : Nat} {Q : ps_Rs → ps_G → Prop}  {x0 : Nat} {x1 : Int32} {x2 : Int32} {g : ps_G} {x : (Int32 × ps_G) ⊕ (ps_G)} (h : bX12_becomePixels_219 x0 x1 x2 g = some x) (hh : ∀ s' : Int32 × ps_G, x = .inl s' → ps_At mX12_becomePixels (d + 2) 219 [(0, .ref x0), (1, .int x1), (2, .int s'.1)] [] s'.2 Q) (he : ∀ r' : ps_G, x = .inr r' → ps_At mX12_becomePixels (d + 2) 238 [] [] r' Q) : ps_At mX12_becomePixels (d + 2) 219 [(0, .ref x0), (1, .int x1), (2, .int x2)] [] g Q := by
  unfold bX12_becomePixels_219 at h
  refine sX12_becomePixels_219 ?_
  refine And.intro (fun hc75 => ?_) (fun hc75 => ?_)
  · replace h := q_ifp (hc75) h
    exact ps_weak (he g (Option.some.inj h).symm) trivial
  · replace h := q_ifn (hc75) h
    replace h := q_be h
    obtain ⟨u77, hv, h⟩ := h
    replace hv := q_ob_e hv
    obtain ⟨_, cu77⟩ := hv
    replace h := q_be h
    obtain ⟨v78, hv, h⟩ := h
    refine ⟨⟨some _, rfl⟩, ⟨_, cu77⟩, ?_⟩
    refine rX12_put hv ?_
    refine ⟨by decide, ?_⟩
    exact ps_weak (hh (x2 + (1 : Int32), v78) (Option.some.inj h).symm) ⟨rfl, rfl, rfl, trivial⟩
noncomputable def fX12_becomePixels (g : ps_G) (x0 : Nat) (x1 : Int32) : Option (ps_G) := Option.bind (q_lp (fun s => bX12_becomePixels_2 x0 x1 s.1 s.2) ((0 : Int32), g)) fun s20 => Option.bind (q_lp (fun s => bX12_becomePixels_49 x0 x1 s.1 s.2) ((0 : Int32), s20)) fun s34 => Option.bind (q_ob 12 s34 x0) fun u35 => Option.bind (fX12_put s34 x0 x1 (1 : Int32) (0 : Int32)) fun v36 => Option.bind (q_lp (fun s => bX12_becomePixels_86 x0 x1 s.1 s.2) ((0 : Int32), v36)) fun s54 => Option.bind (q_lp (fun s => bX12_becomePixels_146 x0 x1 s.1 s.2) ((0 : Int32), s54)) fun s61 => Option.bind (q_ob 12 s61 x0) fun u62 => Option.bind (fX12_put s61 x0 x1 (4 : Int32) (255 : Int32)) fun v63 => Option.bind (q_ob 12 v63 x0) fun u64 => Option.bind (fX12_put v63 x0 x1 (5 : Int32) (0 : Int32)) fun v65 => Option.bind (q_ob 12 v65 x0) fun u66 => Option.bind (fX12_put v65 x0 x1 (10 : Int32) (0 : Int32)) fun v67 => Option.bind (q_lp (fun s => bX12_becomePixels_197 x0 x1 s.1 s.2) ((8 : Int32), v67)) fun s74 => Option.bind (q_lp (fun s => bX12_becomePixels_219 x0 x1 s.1 s.2) ((11 : Int32), s74)) fun s81 => some s81
theorem rX12_becomePixels {d : Nat} {Q : ps_Rs → ps_G → Prop} {g : ps_G} {x0 : Nat} {x1 : Int32} {r : ps_G} (h : fX12_becomePixels g x0 x1 = some r) (hk : Q (.inl none) r) : ps_Ok mX12_becomePixels (d + 2) [.ref x0, .int x1] g Q := by
  unfold fX12_becomePixels at h
  refine sX12_becomePixels_0 ?_
  refine ⟨by decide, ?_⟩
  replace h := q_be h
  obtain ⟨s20, hl, h⟩ := h
  refine ps_weak (q_lp_ok hl (fun s => ps_At mX12_becomePixels (d + 2) 2 [(0, .ref x0), (1, .int x1), (2, .int s.1)] [] s.2 Q) (fun r => ps_At mX12_becomePixels (d + 2) 47 [(0, .ref x0), (1, .int x1)] [] r Q) (fun s x hb hh he => pbX12_becomePixels_2 hb hh he) ?_) ⟨rfl, rfl, rfl, trivial⟩
  refine (?_ : ps_At mX12_becomePixels (d + 2) 47 [(0, .ref x0), (1, .int x1)] [] s20 Q)
  refine sX12_becomePixels_47 ?_
  refine ⟨by decide, ?_⟩
  replace h := q_be h
  obtain ⟨s34, hl, h⟩ := h
  refine ps_weak (q_lp_ok hl (fun s => ps_At mX12_becomePixels (d + 2) 49 [(0, .ref x0), (1, .int x1), (2, .int s.1)] [] s.2 Q) (fun r => ps_At mX12_becomePixels (d + 2) 77 [(0, .ref x0), (1, .int x1)] [] r Q) (fun s x hb hh he => pbX12_becomePixels_49 hb hh he) ?_) ⟨rfl, rfl, rfl, trivial⟩
  refine (?_ : ps_At mX12_becomePixels (d + 2) 77 [(0, .ref x0), (1, .int x1)] [] s34 Q)
  refine sX12_becomePixels_77 ?_
  replace h := q_be h
  obtain ⟨u35, hv, h⟩ := h
  replace hv := q_ob_e hv
  obtain ⟨_, cu35⟩ := hv
  replace h := q_be h
  obtain ⟨v36, hv, h⟩ := h
  refine ⟨⟨some _, rfl⟩, ⟨_, cu35⟩, ?_⟩
  refine rX12_put hv ?_
  refine ⟨by decide, ?_⟩
  replace h := q_be h
  obtain ⟨s54, hl, h⟩ := h
  refine ps_weak (q_lp_ok hl (fun s => ps_At mX12_becomePixels (d + 2) 86 [(0, .ref x0), (1, .int x1), (2, .int s.1)] [] s.2 Q) (fun r => ps_At mX12_becomePixels (d + 2) 144 [(0, .ref x0), (1, .int x1)] [] r Q) (fun s x hb hh he => pbX12_becomePixels_86 hb hh he) ?_) ⟨rfl, rfl, rfl, trivial⟩
  refine (?_ : ps_At mX12_becomePixels (d + 2) 144 [(0, .ref x0), (1, .int x1)] [] s54 Q)
  refine sX12_becomePixels_144 ?_
  refine ⟨by decide, ?_⟩
  replace h := q_be h
  obtain ⟨s61, hl, h⟩ := h
  refine ps_weak (q_lp_ok hl (fun s => ps_At mX12_becomePixels (d + 2) 146 [(0, .ref x0), (1, .int x1), (2, .int s.1)] [] s.2 Q) (fun r => ps_At mX12_becomePixels (d + 2) 170 [(0, .ref x0), (1, .int x1)] [] r Q) (fun s x hb hh he => pbX12_becomePixels_146 hb hh he) ?_) ⟨rfl, rfl, rfl, trivial⟩
  refine (?_ : ps_At mX12_becomePixels (d + 2) 170 [(0, .ref x0), (1, .int x1)] [] s61 Q)
  refine sX12_becomePixels_170 ?_
  replace h := q_be h
  obtain ⟨u62, hv, h⟩ := h
  replace hv := q_ob_e hv
  obtain ⟨_, cu62⟩ := hv
  replace h := q_be h
  obtain ⟨v63, hv, h⟩ := h
  refine ⟨⟨some _, rfl⟩, ⟨_, cu62⟩, ?_⟩
  refine rX12_put hv ?_
  replace h := q_be h
  obtain ⟨u64, hv, h⟩ := h
  replace hv := q_ob_e hv
  obtain ⟨_, cu64⟩ := hv
  replace h := q_be h
  obtain ⟨v65, hv, h⟩ := h
  refine ⟨⟨some _, rfl⟩, ⟨_, cu64⟩, ?_⟩
  refine rX12_put hv ?_
  replace h := q_be h
  obtain ⟨u66, hv, h⟩ := h
  replace hv := q_ob_e hv
  obtain ⟨_, cu66⟩ := hv
  replace h := q_be h
  obtain ⟨v67, hv, h⟩ := h
  refine ⟨⟨some _, rfl⟩, ⟨_, cu66⟩, ?_⟩
  refine rX12_put hv ?_
  refine ⟨by decide, ?_⟩
  replace h := q_be h
  obtain ⟨s74, hl, h⟩ := h
  refine ps_weak (q_lp_ok hl (fun s => ps_At mX12_becomePixels (d + 2) 197 [(0, .ref x0), (1, .int x1), (2, .int s.1)] [] s.2 Q) (fun r => ps_At mX12_becomePixels (d + 2) 216 [(0, .ref x0), (1, .int x1)] [] r Q) (fun s x hb hh he => pbX12_becomePixels_197 hb hh he) ?_) ⟨rfl, rfl, rfl, trivial⟩
  refine (?_ : ps_At mX12_becomePixels (d + 2) 216 [(0, .ref x0), (1, .int x1)] [] s74 Q)
  refine sX12_becomePixels_216 ?_
  refine ⟨by decide, ?_⟩
  replace h := q_be h
  obtain ⟨s81, hl, h⟩ := h
  refine ps_weak (q_lp_ok hl (fun s => ps_At mX12_becomePixels (d + 2) 219 [(0, .ref x0), (1, .int x1), (2, .int s.1)] [] s.2 Q) (fun r => ps_At mX12_becomePixels (d + 2) 238 [] [] r Q) (fun s x hb hh he => pbX12_becomePixels_219 hb hh he) ?_) ⟨rfl, rfl, rfl, trivial⟩
  refine (?_ : ps_At mX12_becomePixels (d + 2) 238 [] [] s81 Q)
  refine sX12_becomePixels_238 ?_
  cases h
  exact ⟨rfl, rfl, hk⟩
noncomputable def jX12_flat_28 (g : ps_G) (x0 : Nat) (x1 : Int32) (k0 : Nat) (k1 : Int32) : Option (ps_G) := Option.bind (q_sI 12 0 g k0 k1) fun g10 => Option.bind (q_fI 12 0 g10 x0) fun v11 => if v11 ≤ 0 then (Option.bind (q_sI 12 19 g10 x0 x1) fun g13 => Option.bind (q_sI 12 20 g13 x0 x1) fun g14 => Option.bind (q_ob 12 g14 x0) fun u15 => Option.bind (fX12_composeGroups g14 x0) fun v16 => Option.bind (q_ob 12 v16 x0) fun u17 => Option.bind (fX12_get v16 x0 x1 (2 : Int32)) fun v18 => Option.bind (q_ob 12 v16 x0) fun u19 => Option.bind (fX12_compose v16 x0 v18 (1 : Int32) (1 : Int32)) fun v20 => Option.bind (q_ob 12 v20 x0) fun u21 => Option.bind (fX12_becomePixels v20 x0 x1) fun v22 => Option.bind (q_ob 12 v22 x0) fun u23 => Option.bind (fX12_edited v22 x0) fun v24 => Option.bind (q_ob 12 v24 x0) fun u25 => Option.bind (fX12_forget v24 x0) fun v26 => some v26) else (some g10)
theorem pjX12_flat_28 {d : Nat} {Q : ps_Rs → ps_G → Prop} {g : ps_G} {x0 : Nat} {x1 : Int32} {k0 : Nat} {k1 : Int32} {r : ps_G} (h : jX12_flat_28 g x0 x1 k0 k1 = some r) (hk : Q (.inl none) r) : ps_At mX12_flat (d + 8) 28 [(0, .ref x0), (1, .int x1)] [.int k1, .ref k0] g Q := by
  unfold jX12_flat_28 at h
  refine sX12_flat_28 ?_
  replace h := q_be h
  obtain ⟨g10, hv, h⟩ := h
  replace hv := q_sI_e hv
  obtain ⟨_, cg10, dg10, yg10⟩ := hv
  replace h := q_be h
  obtain ⟨v11, hv, h⟩ := h
  replace hv := q_fI_e hv
  obtain ⟨_, cv11, dv11⟩ := hv
  refine ⟨_, cg10, dg10, rfl, rfl, _, yg10, ⟨some _, rfl⟩, _, _, cv11, dv11, ?_⟩
  refine And.intro (fun hc12 => ?_) (fun hc12 => ?_)
  · replace h := q_ifp (hc12) h
    refine sX12_flat_39 ?_
    replace h := q_be h
    obtain ⟨g13, hv, h⟩ := h
    replace hv := q_sI_e hv
    obtain ⟨_, cg13, dg13, yg13⟩ := hv
    replace h := q_be h
    obtain ⟨g14, hv, h⟩ := h
    replace hv := q_sI_e hv
    obtain ⟨_, cg14, dg14, yg14⟩ := hv
    replace h := q_be h
    obtain ⟨u15, hv, h⟩ := h
    replace hv := q_ob_e hv
    obtain ⟨_, cu15⟩ := hv
    replace h := q_be h
    obtain ⟨v16, hv, h⟩ := h
    refine ⟨⟨some _, rfl⟩, _, cg13, dg13, rfl, rfl, _, yg13, ⟨some _, rfl⟩, _, cg14, dg14, rfl, rfl, _, yg14, ⟨some _, rfl⟩, ⟨_, cu15⟩, ?_⟩
    refine rX12_composeGroups hv ?_
    replace h := q_be h
    obtain ⟨u17, hv, h⟩ := h
    replace hv := q_ob_e hv
    obtain ⟨_, cu17⟩ := hv
    replace h := q_be h
    obtain ⟨v18, hv, h⟩ := h
    refine ⟨⟨some _, rfl⟩, ⟨some _, rfl⟩, ⟨_, cu17⟩, ?_⟩
    refine rX12_get hv ?_
    replace h := q_be h
    obtain ⟨u19, hv, h⟩ := h
    replace hv := q_ob_e hv
    obtain ⟨_, cu19⟩ := hv
    replace h := q_be h
    obtain ⟨v20, hv, h⟩ := h
    refine ⟨⟨_, cu19⟩, ?_⟩
    refine rX12_compose hv ?_
    replace h := q_be h
    obtain ⟨u21, hv, h⟩ := h
    replace hv := q_ob_e hv
    obtain ⟨_, cu21⟩ := hv
    replace h := q_be h
    obtain ⟨v22, hv, h⟩ := h
    refine ⟨⟨some _, rfl⟩, ⟨_, cu21⟩, ?_⟩
    refine rX12_becomePixels hv ?_
    replace h := q_be h
    obtain ⟨u23, hv, h⟩ := h
    replace hv := q_ob_e hv
    obtain ⟨_, cu23⟩ := hv
    replace h := q_be h
    obtain ⟨v24, hv, h⟩ := h
    refine ⟨⟨some _, rfl⟩, ⟨_, cu23⟩, ?_⟩
    refine rX12_edited hv ?_
    replace h := q_be h
    obtain ⟨u25, hv, h⟩ := h
    replace hv := q_ob_e hv
    obtain ⟨_, cu25⟩ := hv
    replace h := q_be h
    obtain ⟨v26, hv, h⟩ := h
    refine ⟨⟨some _, rfl⟩, ⟨_, cu25⟩, ?_⟩
    refine rX12_forget hv ?_
    cases h
    exact ⟨rfl, rfl, hk⟩
  · replace h := q_ifn (hc12) h
    cases h
    exact ⟨rfl, rfl, hk⟩
noncomputable def fX12_flat (g : ps_G) (x0 : Nat) (x1 : Int32) : Option (ps_G) := Option.bind (q_ob 12 g x0) fun u1 => Option.bind (fX12_isLayer g x0 x1) fun v2 => if ¬ v2 = 0 then (Option.bind (q_ob 12 g x0) fun u5 => Option.bind (fX12_get g x0 x1 (1 : Int32)) fun v6 => jX12_flat_28 g x0 x1 x0 (if v6 ≤ (3 : Int32) then (0 : Int32) else (2 : Int32))) else (jX12_flat_28 g x0 x1 x0 (1 : Int32))
theorem rX12_flat {d : Nat} {Q : ps_Rs → ps_G → Prop} {g : ps_G} {x0 : Nat} {x1 : Int32} {r : ps_G} (h : fX12_flat g x0 x1 = some r) (hk : Q (.inl none) r) : ps_Ok mX12_flat (d + 8) [.ref x0, .int x1] g Q := by
  unfold fX12_flat at h
  refine sX12_flat_0 ?_
  replace h := q_be h
  obtain ⟨u1, hv, h⟩ := h
  replace hv := q_ob_e hv
  obtain ⟨_, cu1⟩ := hv
  replace h := q_be h
  obtain ⟨v2, hv, h⟩ := h
  refine ⟨⟨some _, rfl⟩, ⟨some _, rfl⟩, ⟨_, cu1⟩, ?_⟩
  refine rX12_isLayer hv ?_
  refine And.intro (fun hc3 => ?_) (fun hc3 => ?_)
  · replace h := q_ifp (hc3) h
    refine sX12_flat_13 ?_
    replace h := q_be h
    obtain ⟨u5, hv, h⟩ := h
    replace hv := q_ob_e hv
    obtain ⟨_, cu5⟩ := hv
    replace h := q_be h
    obtain ⟨v6, hv, h⟩ := h
    refine ⟨⟨some _, rfl⟩, ⟨_, cu5⟩, ?_⟩
    refine rX12_get hv ?_
    have kJ9 : ∀ w8 : Int32, w8 = (if v6 ≤ (3 : Int32) then (0 : Int32) else (2 : Int32)) → ps_At mX12_flat (d + 8) 28 [(0, .ref x0), (1, .int x1)] [.int w8, .ref x0] g Q := by
      rintro _ rfl
      exact ps_weak (pjX12_flat_28 h hk) ⟨rfl, rfl, trivial⟩
    refine And.intro (fun hc7 => ?_) (fun hc7 => ?_)
    · refine sX12_flat_27 ?_
      exact ps_weak (kJ9 _ (if_pos (hc7)).symm) ⟨rfl, rfl, trivial⟩
    · exact ps_weak (kJ9 _ (if_neg (hc7)).symm) ⟨rfl, rfl, trivial⟩
  · replace h := q_ifn (hc3) h
    exact ps_weak (pjX12_flat_28 h hk) ⟨rfl, rfl, trivial⟩
noncomputable def jX12_merge_82 (g : ps_G) (x0 : Nat) (x1 : Int32) (x2 : Int32) (k0 : Nat) (k1 : Int32) : Option (ps_G) := Option.bind (q_sI 12 0 g k0 k1) fun g9 => Option.bind (q_fI 12 0 g9 x0) fun v10 => if v10 ≤ 0 then (Option.bind (q_sI 12 19 g9 x0 x2) fun g12 => Option.bind (q_sI 12 20 g12 x0 x1) fun g13 => Option.bind (q_ob 12 g13 x0) fun u14 => Option.bind (fX12_composeGroups g13 x0) fun v15 => Option.bind (q_ob 12 v15 x0) fun u16 => Option.bind (fX12_get v15 x0 x1 (2 : Int32)) fun v17 => Option.bind (q_ob 12 v15 x0) fun u18 => Option.bind (fX12_compose v15 x0 v17 (1 : Int32) (0 : Int32)) fun v19 => Option.bind (q_ob 12 v19 x0) fun u20 => Option.bind (fX12_takeAway v19 x0 x1) fun v21 => Option.bind (q_ob 12 v21 x0) fun u22 => Option.bind (fX12_becomePixels v21 x0 x2) fun v23 => Option.bind (q_ob 12 v23 x0) fun u24 => Option.bind (fX12_edited v23 x0) fun v25 => Option.bind (q_ob 12 v25 x0) fun u26 => Option.bind (fX12_forget v25 x0) fun v27 => some v27) else (some g9)
theorem pjX12_merge_82 {d : Nat} {Q : ps_Rs → ps_G → Prop} {g : ps_G} {x0 : Nat} {x1 : Int32} {x2 : Int32} {k0 : Nat} {k1 : Int32} {r : ps_G} (h : jX12_merge_82 g x0 x1 x2 k0 k1 = some r) (hk : Q (.inl none) r) : ps_At mX12_merge (d + 8) 82 [(0, .ref x0), (1, .int x1), (2, .int x2)] [.int k1, .ref k0] g Q := by
  unfold jX12_merge_82 at h
  refine sX12_merge_82 ?_
  replace h := q_be h
  obtain ⟨g9, hv, h⟩ := h
  replace hv := q_sI_e hv
  obtain ⟨_, cg9, dg9, yg9⟩ := hv
  replace h := q_be h
  obtain ⟨v10, hv, h⟩ := h
  replace hv := q_fI_e hv
  obtain ⟨_, cv10, dv10⟩ := hv
  refine ⟨_, cg9, dg9, rfl, rfl, _, yg9, ⟨some _, rfl⟩, _, _, cv10, dv10, ?_⟩
  refine And.intro (fun hc11 => ?_) (fun hc11 => ?_)
  · replace h := q_ifp (hc11) h
    refine sX12_merge_93 ?_
    replace h := q_be h
    obtain ⟨g12, hv, h⟩ := h
    replace hv := q_sI_e hv
    obtain ⟨_, cg12, dg12, yg12⟩ := hv
    replace h := q_be h
    obtain ⟨g13, hv, h⟩ := h
    replace hv := q_sI_e hv
    obtain ⟨_, cg13, dg13, yg13⟩ := hv
    replace h := q_be h
    obtain ⟨u14, hv, h⟩ := h
    replace hv := q_ob_e hv
    obtain ⟨_, cu14⟩ := hv
    replace h := q_be h
    obtain ⟨v15, hv, h⟩ := h
    refine ⟨⟨some _, rfl⟩, _, cg12, dg12, rfl, rfl, _, yg12, ⟨some _, rfl⟩, _, cg13, dg13, rfl, rfl, _, yg13, ⟨some _, rfl⟩, ⟨_, cu14⟩, ?_⟩
    refine rX12_composeGroups hv ?_
    replace h := q_be h
    obtain ⟨u16, hv, h⟩ := h
    replace hv := q_ob_e hv
    obtain ⟨_, cu16⟩ := hv
    replace h := q_be h
    obtain ⟨v17, hv, h⟩ := h
    refine ⟨⟨some _, rfl⟩, ⟨some _, rfl⟩, ⟨_, cu16⟩, ?_⟩
    refine rX12_get hv ?_
    replace h := q_be h
    obtain ⟨u18, hv, h⟩ := h
    replace hv := q_ob_e hv
    obtain ⟨_, cu18⟩ := hv
    replace h := q_be h
    obtain ⟨v19, hv, h⟩ := h
    refine ⟨⟨_, cu18⟩, ?_⟩
    refine rX12_compose hv ?_
    replace h := q_be h
    obtain ⟨u20, hv, h⟩ := h
    replace hv := q_ob_e hv
    obtain ⟨_, cu20⟩ := hv
    replace h := q_be h
    obtain ⟨v21, hv, h⟩ := h
    refine ⟨⟨some _, rfl⟩, ⟨_, cu20⟩, ?_⟩
    refine rX12_takeAway hv ?_
    replace h := q_be h
    obtain ⟨u22, hv, h⟩ := h
    replace hv := q_ob_e hv
    obtain ⟨_, cu22⟩ := hv
    replace h := q_be h
    obtain ⟨v23, hv, h⟩ := h
    refine ⟨⟨some _, rfl⟩, ⟨_, cu22⟩, ?_⟩
    refine rX12_becomePixels hv ?_
    replace h := q_be h
    obtain ⟨u24, hv, h⟩ := h
    replace hv := q_ob_e hv
    obtain ⟨_, cu24⟩ := hv
    replace h := q_be h
    obtain ⟨v25, hv, h⟩ := h
    refine ⟨⟨some _, rfl⟩, ⟨_, cu24⟩, ?_⟩
    refine rX12_edited hv ?_
    replace h := q_be h
    obtain ⟨u26, hv, h⟩ := h
    replace hv := q_ob_e hv
    obtain ⟨_, cu26⟩ := hv
    replace h := q_be h
    obtain ⟨v27, hv, h⟩ := h
    refine ⟨⟨some _, rfl⟩, ⟨_, cu26⟩, ?_⟩
    refine rX12_forget hv ?_
    cases h
    exact ⟨rfl, rfl, hk⟩
  · replace h := q_ifn (hc11) h
    cases h
    exact ⟨rfl, rfl, hk⟩
noncomputable def jX12_merge_77 (g : ps_G) (x0 : Nat) (x1 : Int32) (x2 : Int32) (k0 : Nat) : Option (ps_G) := jX12_merge_82 g x0 x1 x2 k0 (2 : Int32)
theorem pjX12_merge_77 {d : Nat} {Q : ps_Rs → ps_G → Prop} {g : ps_G} {x0 : Nat} {x1 : Int32} {x2 : Int32} {k0 : Nat} {r : ps_G} (h : jX12_merge_77 g x0 x1 x2 k0 = some r) (hk : Q (.inl none) r) : ps_At mX12_merge (d + 8) 77 [(0, .ref x0), (1, .int x1), (2, .int x2)] [.ref k0] g Q := by
  unfold jX12_merge_77 at h
  refine sX12_merge_77 ?_
  exact ps_weak (pjX12_merge_82 h hk) ⟨rfl, rfl, rfl, trivial⟩
noncomputable def jX12_merge_39 (g : ps_G) (x0 : Nat) (x1 : Int32) (k0 : Int32) : Option (ps_G) := Option.bind (q_ob 12 g x0) fun u4 => Option.bind (fX12_isLayer g x0 x1) fun v5 => if ¬ v5 = 0 then (if k0 < 0 then (jX12_merge_77 g x0 x1 k0 x0) else (Option.bind (q_ob 12 g x0) fun u30 => Option.bind (fX12_get g x0 x1 (1 : Int32)) fun v31 => if (3 : Int32) < v31 then (jX12_merge_77 g x0 x1 k0 x0) else (Option.bind (q_ob 12 g x0) fun u33 => Option.bind (fX12_get g x0 k0 (1 : Int32)) fun v34 => if v34 ≤ (3 : Int32) then (jX12_merge_82 g x0 x1 k0 x0 (0 : Int32)) else (jX12_merge_77 g x0 x1 k0 x0)))) else (jX12_merge_82 g x0 x1 k0 x0 (1 : Int32))
theorem pjX12_merge_39 {d : Nat} {Q : ps_Rs → ps_G → Prop} {g : ps_G} {x0 : Nat} {x1 : Int32} {k0 : Int32} {r : ps_G} (h : jX12_merge_39 g x0 x1 k0 = some r) (hk : Q (.inl none) r) : ps_At mX12_merge (d + 8) 39 [(0, .ref x0), (1, .int x1)] [.int k0] g Q := by
  unfold jX12_merge_39 at h
  refine sX12_merge_39 ?_
  replace h := q_be h
  obtain ⟨u4, hv, h⟩ := h
  replace hv := q_ob_e hv
  obtain ⟨_, cu4⟩ := hv
  replace h := q_be h
  obtain ⟨v5, hv, h⟩ := h
  refine ⟨by decide, ⟨some _, rfl⟩, ⟨some _, rfl⟩, ⟨_, cu4⟩, ?_⟩
  refine rX12_isLayer hv ?_
  refine And.intro (fun hc6 => ?_) (fun hc6 => ?_)
  · replace h := q_ifp (hc6) h
    refine sX12_merge_53 ?_
    refine And.intro (fun hc8 => ?_) (fun hc8 => ?_)
    · replace h := q_ifp (hc8) h
      exact ps_weak (pjX12_merge_77 h hk) ⟨rfl, rfl, rfl, trivial⟩
    · replace h := q_ifn (hc8) h
      replace h := q_be h
      obtain ⟨u30, hv, h⟩ := h
      replace hv := q_ob_e hv
      obtain ⟨_, cu30⟩ := hv
      replace h := q_be h
      obtain ⟨v31, hv, h⟩ := h
      refine ⟨⟨some _, rfl⟩, ⟨_, cu30⟩, ?_⟩
      refine rX12_get hv ?_
      refine And.intro (fun hc32 => ?_) (fun hc32 => ?_)
      · replace h := q_ifp (hc32) h
        exact ps_weak (pjX12_merge_77 h hk) ⟨rfl, rfl, rfl, trivial⟩
      · replace h := q_ifn (hc32) h
        replace h := q_be h
        obtain ⟨u33, hv, h⟩ := h
        replace hv := q_ob_e hv
        obtain ⟨_, cu33⟩ := hv
        replace h := q_be h
        obtain ⟨v34, hv, h⟩ := h
        refine ⟨⟨some _, rfl⟩, ⟨_, cu33⟩, ?_⟩
        refine rX12_get hv ?_
        refine And.intro (fun hc35 => ?_) (fun hc35 => ?_)
        · replace h := q_ifp (hc35) h
          refine sX12_merge_81 ?_
          exact ps_weak (pjX12_merge_82 h hk) ⟨rfl, rfl, rfl, trivial⟩
        · replace h := q_ifn (hc35) h
          exact ps_weak (pjX12_merge_77 h hk) ⟨rfl, rfl, rfl, trivial⟩
  · replace h := q_ifn (hc6) h
    exact ps_weak (pjX12_merge_82 h hk) ⟨rfl, rfl, rfl, trivial⟩
noncomputable def jX12_merge_38 (g : ps_G) (x0 : Nat) (x1 : Int32) : Option (ps_G) := jX12_merge_39 g x0 x1 (-1 : Int32)
theorem pjX12_merge_38 {d : Nat} {Q : ps_Rs → ps_G → Prop} {g : ps_G} {x0 : Nat} {x1 : Int32} {r : ps_G} (h : jX12_merge_38 g x0 x1 = some r) (hk : Q (.inl none) r) : ps_At mX12_merge (d + 8) 38 [(0, .ref x0), (1, .int x1)] [] g Q := by
  unfold jX12_merge_38 at h
  refine sX12_merge_38 ?_
  exact ps_weak (pjX12_merge_39 h hk) ⟨rfl, rfl, trivial⟩
noncomputable def fX12_merge (g : ps_G) (x0 : Nat) (x1 : Int32) : Option (ps_G) := Option.bind (q_ob 12 g x0) fun u1 => Option.bind (fX12_isLayer g x0 x1) fun v2 => if v2 = 0 then (jX12_merge_38 g x0 x1) else (Option.bind (q_ob 12 g x0) fun u44 => Option.bind (fX12_get g x0 x1 (3 : Int32)) fun v45 => if v45 ≤ 0 then (jX12_merge_38 g x0 x1) else (Option.bind (q_ob 12 g x0) fun u47 => Option.bind (fX12_get g x0 x1 (2 : Int32)) fun v48 => Option.bind (q_ob 12 g x0) fun u49 => Option.bind (fX12_get g x0 x1 (3 : Int32)) fun v50 => Option.bind (q_ob 12 g x0) fun u51 => Option.bind (fX12_child g x0 v48 (v50 - (1 : Int32))) fun v52 => jX12_merge_39 g x0 x1 v52))
theorem rX12_merge {d : Nat} {Q : ps_Rs → ps_G → Prop} {g : ps_G} {x0 : Nat} {x1 : Int32} {r : ps_G} (h : fX12_merge g x0 x1 = some r) (hk : Q (.inl none) r) : ps_Ok mX12_merge (d + 8) [.ref x0, .int x1] g Q := by
  unfold fX12_merge at h
  refine sX12_merge_0 ?_
  replace h := q_be h
  obtain ⟨u1, hv, h⟩ := h
  replace hv := q_ob_e hv
  obtain ⟨_, cu1⟩ := hv
  replace h := q_be h
  obtain ⟨v2, hv, h⟩ := h
  refine ⟨⟨some _, rfl⟩, ⟨_, cu1⟩, ?_⟩
  refine rX12_isLayer hv ?_
  refine And.intro (fun hc3 => ?_) (fun hc3 => ?_)
  · replace h := q_ifp (hc3) h
    exact ps_weak (pjX12_merge_38 h hk) ⟨rfl, rfl, trivial⟩
  · replace h := q_ifn (hc3) h
    replace h := q_be h
    obtain ⟨u44, hv, h⟩ := h
    replace hv := q_ob_e hv
    obtain ⟨_, cu44⟩ := hv
    replace h := q_be h
    obtain ⟨v45, hv, h⟩ := h
    refine ⟨⟨some _, rfl⟩, ⟨_, cu44⟩, ?_⟩
    refine rX12_get hv ?_
    refine And.intro (fun hc46 => ?_) (fun hc46 => ?_)
    · replace h := q_ifp (hc46) h
      exact ps_weak (pjX12_merge_38 h hk) ⟨rfl, rfl, trivial⟩
    · replace h := q_ifn (hc46) h
      replace h := q_be h
      obtain ⟨u47, hv, h⟩ := h
      replace hv := q_ob_e hv
      obtain ⟨_, cu47⟩ := hv
      replace h := q_be h
      obtain ⟨v48, hv, h⟩ := h
      refine ⟨⟨some _, rfl⟩, ⟨some _, rfl⟩, ⟨_, cu47⟩, ?_⟩
      refine rX12_get hv ?_
      replace h := q_be h
      obtain ⟨u49, hv, h⟩ := h
      replace hv := q_ob_e hv
      obtain ⟨_, cu49⟩ := hv
      replace h := q_be h
      obtain ⟨v50, hv, h⟩ := h
      refine ⟨⟨some _, rfl⟩, ⟨_, cu49⟩, ?_⟩
      refine rX12_get hv ?_
      replace h := q_be h
      obtain ⟨u51, hv, h⟩ := h
      replace hv := q_ob_e hv
      obtain ⟨_, cu51⟩ := hv
      replace h := q_be h
      obtain ⟨v52, hv, h⟩ := h
      refine ⟨⟨_, cu51⟩, ?_⟩
      refine rX12_child hv ?_
      exact ps_weak (pjX12_merge_39 h hk) ⟨rfl, rfl, trivial⟩
