noncomputable def fX11_takeInput (g : ps_G) (x0 : Nat) : Option (Int32 × ps_G) := Option.bind (q_fI 11 14 g x0) fun v1 => Option.bind (q_sI 11 14 g x0 (0 : Int32)) fun g2 => Option.bind (q_sI 11 15 g2 x0 (0 : Int32)) fun g3 => Option.bind (q_sI 11 16 g3 x0 (0 : Int32)) fun g4 => some (v1, g4)
theorem rX11_takeInput {d : Nat} {Q : ps_Rs → ps_G → Prop} {g : ps_G} {x0 : Nat} {r : Int32 × ps_G} (h : fX11_takeInput g x0 = some r) (hk : Q (.inl (some (.int r.1))) r.2) : ps_Ok mX11_takeInput d [.ref x0] g Q := by
  unfold fX11_takeInput at h
  refine sX11_takeInput_0 ?_
  replace h := q_be h
  obtain ⟨v1, hv, h⟩ := h
  replace hv := q_fI_e hv
  obtain ⟨_, cv1, dv1⟩ := hv
  replace h := q_be h
  obtain ⟨g2, hv, h⟩ := h
  replace hv := q_sI_e hv
  obtain ⟨_, cg2, dg2, yg2⟩ := hv
  replace h := q_be h
  obtain ⟨g3, hv, h⟩ := h
  replace hv := q_sI_e hv
  obtain ⟨_, cg3, dg3, yg3⟩ := hv
  replace h := q_be h
  obtain ⟨g4, hv, h⟩ := h
  replace hv := q_sI_e hv
  obtain ⟨_, cg4, dg4, yg4⟩ := hv
  cases h
  exact ⟨⟨some _, rfl⟩, _, _, cv1, dv1, by decide, ⟨some _, rfl⟩, _, cg2, dg2, rfl, rfl, _, yg2, ⟨some _, rfl⟩, _, cg3, dg3, rfl, rfl, _, yg3, ⟨some _, rfl⟩, _, cg4, dg4, rfl, rfl, _, yg4, rfl, hk⟩
noncomputable def jX11_text_132_52 (g : ps_G) (x0 : Nat) (x3 : Int32) (x4 : Int32) (x5 : Option Nat) (x6 : Nat) (x7 : Int32) (x8 : Int32) : Option ((Int32 × Int32 × ps_G) ⊕ (ps_G)) := some (.inl (x7, x8 + (1 : Int32), g))
theorem pjX11_text_132_52 {d : Nat} {Q : ps_Rs → ps_G → Prop} {g : ps_G} {x0 : Nat} {x3 : Int32} {x4 : Int32} {x5 : Option Nat} {x6 : Nat} {x7 : Int32} {x8 : Int32} {x : (Int32 × Int32 × ps_G) ⊕ (ps_G)} (h : jX11_text_132_52 g x0 x3 x4 x5 x6 x7 x8 = some x) (hh : ∀ s' : Int32 × Int32 × ps_G, x = .inl s' → ps_At mX11_text (d + 8) 52 [(0, .ref x0), (3, .int x3), (4, .int x4), (5, va_rf x5), (6, .ref x6), (7, .int s'.1), (8, .int s'.2.1)] [] s'.2.2 Q) (he : ∀ r' : ps_G, x = .inr r' → ps_At mX11_text (d + 8) 138 [(0, .ref x0), (5, va_rf x5), (6, .ref x6)] [] r' Q) : ps_At mX11_text (d + 8) 132 [(0, .ref x0), (3, .int x3), (4, .int x4), (5, va_rf x5), (6, .ref x6), (7, .int x7), (8, .int x8)] [] g Q := by
  unfold jX11_text_132_52 at h
  refine sX11_text_132 ?_
  refine ⟨by decide, ?_⟩
  exact ps_weak (hh (x7, x8 + (1 : Int32), g) (Option.some.inj h).symm) ⟨(by first | rfl | (cases x5 <;> rfl)), (by first | rfl | (cases x5 <;> rfl)), (by first | rfl | (cases x5 <;> rfl)), (by first | rfl | (cases x5 <;> rfl)), (by first | rfl | (cases x5 <;> rfl)), (by first | rfl | (cases x5 <;> rfl)), (by first | rfl | (cases x5 <;> rfl)), trivial⟩
noncomputable def bX11_text_52 (x0 : Nat) (x3 : Int32) (x4 : Int32) (x5 : Option Nat) (x6 : Nat) (x7 : Int32) (x8 : Int32) (g : ps_G) : Option ((Int32 × Int32 × ps_G) ⊕ (ps_G)) := if (x4 ≤ x8) ∨ ((40 : Int32) ≤ x8) then (some (.inr g)) else (Option.bind (q_fR 11 13 g x0) fun v18 => Option.bind (v18) fun a19 => Option.bind (q_aI g a19 x8) fun v20 => Option.bind (q_fR 11 9 g x0) fun v21 => Option.bind (v21) fun a22 => Option.bind (q_fR 6 4 g a22) fun v23 => Option.bind (v23) fun a24 => Option.bind (q_aI g a24 (v20 &&& (255 : Int32))) fun v25 => if v25 < 0 then (jX11_text_132_52 g x0 x3 x4 x5 x6 x7 x8) else (Option.bind (q_fR 11 9 g x0) fun v28 => Option.bind (v28) fun a29 => Option.bind (q_ob 6 g a29) fun u30 => Option.bind (fX6_trace g a29 v25 x7 x3) fun v31 => Option.bind (x5) fun a32 => Option.bind (q_ob 11 v31 x0) fun u33 => Option.bind (fX11_fillTraced v31 x0 a32 x6 (0 : Int32)) fun v34 => Option.bind (q_fR 11 9 v34 x0) fun v35 => Option.bind (v35) fun a36 => Option.bind (q_fR 6 5 v34 a36) fun v37 => Option.bind (v37) fun a38 => Option.bind (q_aI v34 a38 (v20 &&& (255 : Int32))) fun v39 => jX11_text_132_52 v34 x0 x3 x4 (some a32) x6 (x7 + v39) x8))
theorem pbX11_text_52 {d : Nat} {Q : ps_Rs → ps_G → Prop}  {x0 : Nat} {x3 : Int32} {x4 : Int32} {x5 : Option Nat} {x6 : Nat} {x7 : Int32} {x8 : Int32} {g : ps_G} {x : (Int32 × Int32 × ps_G) ⊕ (ps_G)} (h : bX11_text_52 x0 x3 x4 x5 x6 x7 x8 g = some x) (hh : ∀ s' : Int32 × Int32 × ps_G, x = .inl s' → ps_At mX11_text (d + 8) 52 [(0, .ref x0), (3, .int x3), (4, .int x4), (5, va_rf x5), (6, .ref x6), (7, .int s'.1), (8, .int s'.2.1)] [] s'.2.2 Q) (he : ∀ r' : ps_G, x = .inr r' → ps_At mX11_text (d + 8) 138 [(0, .ref x0), (5, va_rf x5), (6, .ref x6)] [] r' Q) : ps_At mX11_text (d + 8) 52 [(0, .ref x0), (3, .int x3), (4, .int x4), (5, va_rf x5), (6, .ref x6), (7, .int x7), (8, .int x8)] [] g Q := by
  unfold bX11_text_52 at h
  refine sX11_text_52 ?_
  have kT42 : (some (.inr g)) = some x → ps_At mX11_text (d + 8) 138 [(0, .ref x0), (5, va_rf x5), (6, .ref x6)] [] g Q := fun h => by
    exact ps_weak (he g (Option.some.inj h).symm) ⟨(by first | rfl | (cases x5 <;> rfl)), (by first | rfl | (cases x5 <;> rfl)), (by first | rfl | (cases x5 <;> rfl)), trivial⟩
  refine And.intro (fun hc15 => ?_) (fun hc15 => ?_)
  · exact ps_weak (kT42 (q_ifp (Or.inl hc15) h)) ⟨(by first | rfl | (cases x5 <;> rfl)), (by first | rfl | (cases x5 <;> rfl)), (by first | rfl | (cases x5 <;> rfl)), trivial⟩
  · refine And.intro (fun hc16 => ?_) (fun hc16 => ?_)
    · exact ps_weak (kT42 (q_ifp (Or.inr (hc16)) h)) ⟨(by first | rfl | (cases x5 <;> rfl)), (by first | rfl | (cases x5 <;> rfl)), (by first | rfl | (cases x5 <;> rfl)), trivial⟩
    · replace h := q_ifn (not_or.mpr ⟨hc15, hc16⟩) h
      replace h := q_be h
      obtain ⟨v18, hv, h⟩ := h
      replace hv := q_fR_e hv
      obtain ⟨_, cv18, dv18⟩ := hv
      replace h := q_be h
      obtain ⟨a19, ea19, h⟩ := h
      subst ea19
      replace h := q_be h
      obtain ⟨v20, hv, h⟩ := h
      replace hv := q_aI_e hv
      obtain ⟨_, _, cv20, iv20, yv20⟩ := hv
      replace h := q_be h
      obtain ⟨v21, hv, h⟩ := h
      replace hv := q_fR_e hv
      obtain ⟨_, cv21, dv21⟩ := hv
      replace h := q_be h
      obtain ⟨a22, ea22, h⟩ := h
      subst ea22
      replace h := q_be h
      obtain ⟨v23, hv, h⟩ := h
      replace hv := q_fR_e hv
      obtain ⟨_, cv23, dv23⟩ := hv
      replace h := q_be h
      obtain ⟨a24, ea24, h⟩ := h
      subst ea24
      replace h := q_be h
      obtain ⟨v25, hv, h⟩ := h
      replace hv := q_aI_e hv
      obtain ⟨_, _, cv25, iv25, yv25⟩ := hv
      refine ⟨⟨some _, rfl⟩, _, _, cv18, dv18, _, _, cv20, iv20, _, yv20, by decide, ⟨some _, rfl⟩, _, _, cv21, dv21, _, _, cv23, dv23, _, _, cv25, iv25, _, yv25, by decide, ?_⟩
      refine And.intro (fun hc26 => ?_) (fun hc26 => ?_)
      · replace h := q_ifp (hc26) h
        exact ps_weak (pjX11_text_132_52 h hh he) ⟨(by first | rfl | (cases x5 <;> rfl)), (by first | rfl | (cases x5 <;> rfl)), (by first | rfl | (cases x5 <;> rfl)), (by first | rfl | (cases x5 <;> rfl)), (by first | rfl | (cases x5 <;> rfl)), (by first | rfl | (cases x5 <;> rfl)), (by first | rfl | (cases x5 <;> rfl)), trivial⟩
      · replace h := q_ifn (hc26) h
        replace h := q_be h
        obtain ⟨v28, hv, h⟩ := h
        replace hv := q_fR_e hv
        obtain ⟨_, cv28, dv28⟩ := hv
        replace h := q_be h
        obtain ⟨a29, ea29, h⟩ := h
        subst ea29
        replace h := q_be h
        obtain ⟨u30, hv, h⟩ := h
        replace hv := q_ob_e hv
        obtain ⟨_, cu30⟩ := hv
        replace h := q_be h
        obtain ⟨v31, hv, h⟩ := h
        refine ⟨⟨some _, rfl⟩, _, _, cv28, dv28, ⟨_, cu30⟩, ?_⟩
        refine rX6_trace hv ?_
        replace h := q_be h
        obtain ⟨a32, ea32, h⟩ := h
        subst ea32
        replace h := q_be h
        obtain ⟨u33, hv, h⟩ := h
        replace hv := q_ob_e hv
        obtain ⟨_, cu33⟩ := hv
        replace h := q_be h
        obtain ⟨v34, hv, h⟩ := h
        refine ⟨⟨some _, rfl⟩, ⟨some _, rfl⟩, ⟨some _, rfl⟩, ⟨_, cu33⟩, ?_⟩
        refine rX11_fillTraced hv ?_
        replace h := q_be h
        obtain ⟨v35, hv, h⟩ := h
        replace hv := q_fR_e hv
        obtain ⟨_, cv35, dv35⟩ := hv
        replace h := q_be h
        obtain ⟨a36, ea36, h⟩ := h
        subst ea36
        replace h := q_be h
        obtain ⟨v37, hv, h⟩ := h
        replace hv := q_fR_e hv
        obtain ⟨_, cv37, dv37⟩ := hv
        replace h := q_be h
        obtain ⟨a38, ea38, h⟩ := h
        subst ea38
        replace h := q_be h
        obtain ⟨v39, hv, h⟩ := h
        replace hv := q_aI_e hv
        obtain ⟨_, _, cv39, iv39, yv39⟩ := hv
        refine ⟨⟨some _, rfl⟩, _, _, cv35, dv35, _, _, cv37, dv37, _, _, cv39, iv39, _, yv39, by decide, ?_⟩
        exact ps_weak (pjX11_text_132_52 h hh he) ⟨rfl, rfl, rfl, rfl, rfl, rfl, rfl, trivial⟩
noncomputable def jX11_text_138 (g : ps_G) (x0 : Nat) (x5 : Option Nat) (x6 : Nat) : Option ((String ⊕ Int32) × ps_G) := Option.bind (x5) fun a45 => Option.bind (q_ob 11 g x0) fun u46 => q_b2 (fX11_repaint g x0 a45 x6) fun v47 g48 => some (.inr v47, g48)
theorem pjX11_text_138 {d : Nat} {Q : ps_Rs → ps_G → Prop} {g : ps_G} {x0 : Nat} {x5 : Option Nat} {x6 : Nat} {r : (String ⊕ Int32) × ps_G} (h : jX11_text_138 g x0 x5 x6 = some r) (hk : Q (q_rI r.1) r.2) : ps_At mX11_text (d + 8) 138 [(0, .ref x0), (5, va_rf x5), (6, .ref x6)] [] g Q := by
  unfold jX11_text_138 at h
  refine sX11_text_138 ?_
  replace h := q_be h
  obtain ⟨a45, ea45, h⟩ := h
  subst ea45
  replace h := q_be h
  obtain ⟨u46, hv, h⟩ := h
  replace hv := q_ob_e hv
  obtain ⟨_, cu46⟩ := hv
  replace h := q_b2_e h
  obtain ⟨v47, g48, hv, h⟩ := h
  refine ⟨⟨some _, rfl⟩, ⟨some _, rfl⟩, ⟨some _, rfl⟩, ⟨_, cu46⟩, ?_⟩
  refine rX11_repaint hv ?_
  cases h
  exact ⟨rfl, hk⟩
noncomputable def fX11_text (g : ps_G) (x0 : Nat) (x1 : Int32) (x2 : Int32) (x3 : Int32) : Option ((String ⊕ Int32) × ps_G) := Option.bind (q_ob 11 g x0) fun u1 => q_b2 (fX11_takeInput g x0) fun v2 g3 => q_tc (fX11_range g3 x2 (-2000 : Int32) (2000 : Int32)) fun v4 g5 => q_tc (fX11_range g5 x3 (-2000 : Int32) (2000 : Int32)) fun v6 g7 => Option.bind (q_ob 11 g7 x0) fun u8 => q_tc (fX11_knownPixels g7 x0 x1) fun v9 g10 => Option.bind (v9) fun a11 => Option.bind (q_fR 4 15 g10 a11) fun v12 => Option.bind (v12) fun a13 => Option.bind (q_cl g10 a13) fun g14 => Option.bind (q_lp (fun s => bX11_text_52 x0 x3 v2 (some a11) g10.1 s.1 s.2.1 s.2.2) (x2, (0 : Int32), g14)) fun s44 => jX11_text_138 s44 x0 (some a11) g10.1
theorem rX11_text {d : Nat} {Q : ps_Rs → ps_G → Prop} {g : ps_G} {x0 : Nat} {x1 : Int32} {x2 : Int32} {x3 : Int32} {r : (String ⊕ Int32) × ps_G} (h : fX11_text g x0 x1 x2 x3 = some r) (hk : Q (q_rI r.1) r.2) : ps_Ok mX11_text (d + 8) [.ref x0, .int x1, .int x2, .int x3] g Q := by
  unfold fX11_text at h
  refine sX11_text_0 ?_
  replace h := q_be h
  obtain ⟨u1, hv, h⟩ := h
  replace hv := q_ob_e hv
  obtain ⟨_, cu1⟩ := hv
  replace h := q_b2_e h
  obtain ⟨v2, g3, hv, h⟩ := h
  refine ⟨⟨some _, rfl⟩, ⟨_, cu1⟩, ?_⟩
  refine rX11_takeInput hv ?_
  refine ⟨by decide, ?_⟩
  replace h := q_tc_e h
  rcases h with ⟨E, g5, hv, rfl⟩ | ⟨v4, g5, hv, h⟩
  · exact rX11_range hv ⟨rfl, hk⟩
  refine rX11_range hv ?_
  replace h := q_tc_e h
  rcases h with ⟨E, g7, hv, rfl⟩ | ⟨v6, g7, hv, h⟩
  · exact rX11_range hv ⟨rfl, hk⟩
  refine rX11_range hv ?_
  replace h := q_be h
  obtain ⟨u8, hv, h⟩ := h
  replace hv := q_ob_e hv
  obtain ⟨_, cu8⟩ := hv
  refine ⟨⟨some _, rfl⟩, ⟨_, cu8⟩, ?_⟩
  replace h := q_tc_e h
  rcases h with ⟨E, g10, hv, rfl⟩ | ⟨v9, g10, hv, h⟩
  · exact rX11_knownPixels hv hk
  refine rX11_knownPixels hv ?_
  refine sX11_text_31 ?_
  replace h := q_be h
  obtain ⟨a11, ea11, h⟩ := h
  subst ea11
  replace h := q_be h
  obtain ⟨v12, hv, h⟩ := h
  replace hv := q_fR_e hv
  obtain ⟨_, cv12, dv12⟩ := hv
  replace h := q_be h
  obtain ⟨a13, ea13, h⟩ := h
  subst ea13
  replace h := q_be h
  obtain ⟨g14, hv, h⟩ := h
  replace hv := q_cl_e hv
  obtain ⟨_, _, ag14, bg14, wg14, yg14⟩ := hv
  refine ⟨_, _, rfl, by decide, ⟨some _, rfl⟩, _, _, cv12, dv12, _, _, ag14, bg14, by decide, _, yg14, _, _, (by rw [← yg14]; exact if_pos rfl), wg14, some _, _, rfl, by decide, by decide, by decide, ?_⟩
  replace h := q_be h
  obtain ⟨s44, hl, h⟩ := h
  refine ps_weak (q_lp_ok hl (fun s => ps_At mX11_text (d + 8) 52 [(0, .ref x0), (3, .int x3), (4, .int v2), (5, va_rf (some a11)), (6, .ref g10.1), (7, .int s.1), (8, .int s.2.1)] [] s.2.2 Q) (fun r => ps_At mX11_text (d + 8) 138 [(0, .ref x0), (5, va_rf (some a11)), (6, .ref g10.1)] [] r Q) (fun s x hb hh he => pbX11_text_52 hb hh he) ?_) ⟨rfl, rfl, rfl, rfl, rfl, rfl, rfl, trivial⟩
  refine (?_ : ps_At mX11_text (d + 8) 138 [(0, .ref x0), (5, va_rf (some a11)), (6, .ref g10.1)] [] s44 Q)
  exact ps_weak (pjX11_text_138 h hk) ⟨rfl, rfl, rfl, trivial⟩
noncomputable def fX3_cofactor (g : ps_G) (x0 : Nat) (x1 : Int32) (x2 : Int32) (x3 : Int32) : Option (Int64) := Option.bind (q_fR 3 0 g x0) fun v1 => Option.bind (v1) fun a2 => Option.bind (q_aI g a2 (((x1 * (10 : Int32)) + ((q_rem (x2 + (1 : Int32)) (3 : Int32)) * (3 : Int32))) + (q_rem (x3 + (1 : Int32)) (3 : Int32)))) fun v3 => Option.bind (q_fR 3 0 g x0) fun v4 => Option.bind (v4) fun a5 => Option.bind (q_aI g a5 (((x1 * (10 : Int32)) + ((q_rem (x2 + (2 : Int32)) (3 : Int32)) * (3 : Int32))) + (q_rem (x3 + (2 : Int32)) (3 : Int32)))) fun v6 => Option.bind (q_fR 3 0 g x0) fun v7 => Option.bind (v7) fun a8 => Option.bind (q_aI g a8 (((x1 * (10 : Int32)) + ((q_rem (x2 + (1 : Int32)) (3 : Int32)) * (3 : Int32))) + (q_rem (x3 + (2 : Int32)) (3 : Int32)))) fun v9 => Option.bind (q_fR 3 0 g x0) fun v10 => Option.bind (v10) fun a11 => Option.bind (q_aI g a11 (((x1 * (10 : Int32)) + ((q_rem (x2 + (2 : Int32)) (3 : Int32)) * (3 : Int32))) + (q_rem (x3 + (1 : Int32)) (3 : Int32)))) fun v12 => some (((Int32.toInt64 v3) * (Int32.toInt64 v6)) - ((Int32.toInt64 v9) * (Int32.toInt64 v12)))
theorem rX3_cofactor {d : Nat} {Q : ps_Rs → ps_G → Prop} {g : ps_G} {x0 : Nat} {x1 : Int32} {x2 : Int32} {x3 : Int32} {r : Int64} (h : fX3_cofactor g x0 x1 x2 x3 = some r) (hk : Q (.inl (some (.long r))) g) : ps_Ok mX3_cofactor d [.ref x0, .int x1, .int x2, .int x3] g Q := by
  unfold fX3_cofactor at h
  refine sX3_cofactor_0 ?_
  replace h := q_be h
  obtain ⟨v1, hv, h⟩ := h
  replace hv := q_fR_e hv
  obtain ⟨_, cv1, dv1⟩ := hv
  replace h := q_be h
  obtain ⟨a2, ea2, h⟩ := h
  subst ea2
  replace h := q_be h
  obtain ⟨v3, hv, h⟩ := h
  replace hv := q_aI_e hv
  obtain ⟨_, _, cv3, iv3, yv3⟩ := hv
  replace h := q_be h
  obtain ⟨v4, hv, h⟩ := h
  replace hv := q_fR_e hv
  obtain ⟨_, cv4, dv4⟩ := hv
  replace h := q_be h
  obtain ⟨a5, ea5, h⟩ := h
  subst ea5
  replace h := q_be h
  obtain ⟨v6, hv, h⟩ := h
  replace hv := q_aI_e hv
  obtain ⟨_, _, cv6, iv6, yv6⟩ := hv
  replace h := q_be h
  obtain ⟨v7, hv, h⟩ := h
  replace hv := q_fR_e hv
  obtain ⟨_, cv7, dv7⟩ := hv
  replace h := q_be h
  obtain ⟨a8, ea8, h⟩ := h
  subst ea8
  refine ⟨by decide, _, rfl, by decide, by decide, _, rfl, by decide, by decide, _, rfl, by decide, by decide, _, rfl, by decide, ⟨some _, rfl⟩, _, _, cv1, dv1, _, _, cv3, iv3, _, yv3, ⟨some _, rfl⟩, _, _, cv4, dv4, _, _, cv6, iv6, _, yv6, ⟨some _, rfl⟩, _, _, cv7, dv7, ?_⟩
  replace h := q_be h
  obtain ⟨v9, hv, h⟩ := h
  replace hv := q_aI_e hv
  obtain ⟨_, _, cv9, iv9, yv9⟩ := hv
  replace h := q_be h
  obtain ⟨v10, hv, h⟩ := h
  replace hv := q_fR_e hv
  obtain ⟨_, cv10, dv10⟩ := hv
  replace h := q_be h
  obtain ⟨a11, ea11, h⟩ := h
  subst ea11
  replace h := q_be h
  obtain ⟨v12, hv, h⟩ := h
  replace hv := q_aI_e hv
  obtain ⟨_, _, cv12, iv12, yv12⟩ := hv
  cases h
  exact ⟨_, _, cv9, iv9, _, yv9, ⟨some _, rfl⟩, _, _, cv10, dv10, _, _, cv12, iv12, _, yv12, rfl, rfl, hk⟩
noncomputable def bX3_determinant_5 (g : ps_G) (x0 : Nat) (x1 : Int32) (x2 : Int64) (x4 : Int32) : Option ((Int64 × Int32) ⊕ (Int64)) := if (3 : Int32) ≤ x4 then (some (.inr x2)) else (Option.bind (q_fR 3 0 g x0) fun v3 => Option.bind (v3) fun a4 => Option.bind (q_aI g a4 ((x1 * (10 : Int32)) + x4)) fun v5 => Option.bind (q_ob 3 g x0) fun u6 => Option.bind (fX3_cofactor g x0 x1 (0 : Int32) x4) fun v7 => some (.inl (x2 + ((Int32.toInt64 v5) * v7), x4 + (1 : Int32))))
theorem pbX3_determinant_5 {d : Nat} {Q : ps_Rs → ps_G → Prop} {g : ps_G} {x0 : Nat} {x1 : Int32} {x2 : Int64} {x4 : Int32} {x : (Int64 × Int32) ⊕ (Int64)} (h : bX3_determinant_5 g x0 x1 x2 x4 = some x) (hh : ∀ s' : Int64 × Int32, x = .inl s' → ps_At mX3_determinant (d + 1) 5 [(0, .ref x0), (1, .int x1), (2, .long s'.1), (4, .int s'.2)] [] g Q) (he : ∀ r' : Int64, x = .inr r' → ps_At mX3_determinant (d + 1) 42 [(2, .long r')] [] g Q) : ps_At mX3_determinant (d + 1) 5 [(0, .ref x0), (1, .int x1), (2, .long x2), (4, .int x4)] [] g Q := by
  unfold bX3_determinant_5 at h
  refine sX3_determinant_5 ?_
  refine And.intro (fun hc1 => ?_) (fun hc1 => ?_)
  · replace h := q_ifp (hc1) h
    exact ps_weak (he x2 (Option.some.inj h).symm) ⟨rfl, trivial⟩
  · replace h := q_ifn (hc1) h
    replace h := q_be h
    obtain ⟨v3, hv, h⟩ := h
    replace hv := q_fR_e hv
    obtain ⟨_, cv3, dv3⟩ := hv
    replace h := q_be h
    obtain ⟨a4, ea4, h⟩ := h
    subst ea4
    replace h := q_be h
    obtain ⟨v5, hv, h⟩ := h
    replace hv := q_aI_e hv
    obtain ⟨_, _, cv5, iv5, yv5⟩ := hv
    replace h := q_be h
    obtain ⟨u6, hv, h⟩ := h
    replace hv := q_ob_e hv
    obtain ⟨_, cu6⟩ := hv
    replace h := q_be h
    obtain ⟨v7, hv, h⟩ := h
    refine ⟨⟨some _, rfl⟩, _, _, cv3, dv3, _, _, cv5, iv5, _, yv5, ⟨some _, rfl⟩, ⟨_, cu6⟩, ?_⟩
    refine rX3_cofactor hv ?_
    refine ⟨by decide, by decide, ?_⟩
    exact ps_weak (hh (x2 + ((Int32.toInt64 v5) * v7), x4 + (1 : Int32)) (Option.some.inj h).symm) ⟨rfl, rfl, rfl, rfl, trivial⟩
noncomputable def fX3_determinant (g : ps_G) (x0 : Nat) (x1 : Int32) : Option (Int64) := Option.bind (q_lp (fun s => bX3_determinant_5 g x0 x1 s.1 s.2) ((0 : Int64), (0 : Int32))) fun s10 => some s10
theorem rX3_determinant {d : Nat} {Q : ps_Rs → ps_G → Prop} {g : ps_G} {x0 : Nat} {x1 : Int32} {r : Int64} (h : fX3_determinant g x0 x1 = some r) (hk : Q (.inl (some (.long r))) g) : ps_Ok mX3_determinant (d + 1) [.ref x0, .int x1] g Q := by
  unfold fX3_determinant at h
  refine sX3_determinant_0 ?_
  refine ⟨by decide, by decide, ?_⟩
  replace h := q_be h
  obtain ⟨s10, hl, h⟩ := h
  refine ps_weak (q_lp_ok hl (fun s => ps_At mX3_determinant (d + 1) 5 [(0, .ref x0), (1, .int x1), (2, .long s.1), (4, .int s.2)] [] g Q) (fun r => ps_At mX3_determinant (d + 1) 42 [(2, .long r)] [] g Q) (fun s x hb hh he => pbX3_determinant_5 hb hh he) ?_) ⟨rfl, rfl, rfl, rfl, trivial⟩
  refine (?_ : ps_At mX3_determinant (d + 1) 42 [(2, .long s10)] [] g Q)
  refine sX3_determinant_42 ?_
  cases h
  exact ⟨rfl, rfl, hk⟩
def fX3_level (x0 : Int32) (x1 : Int32) : Int32 := (if ¬ x0 = 0 then (if ¬ x0 = (1 : Int32) then ((((4095 : Int32) * x1) / (255 : Int32)) + ((3 : Int32) * ((((4095 : Int32) * x1) * x1) / (65025 : Int32)))) / (4 : Int32) else (((4095 : Int32) * x1) * x1) / (65025 : Int32)) else ((4095 : Int32) * x1) / (255 : Int32))
theorem rX3_level {d : Nat} {Q : ps_Rs → ps_G → Prop} {g : ps_G} {x0 : Int32} {x1 : Int32} {r : Int32} (h : fX3_level x0 x1 = r) (hk : Q (.inl (some (.int r))) g) : ps_Ok mX3_level d [.int x0, .int x1] g Q := by
  unfold fX3_level at h
  refine sX3_level_0 ?_
  have kJ3 : ∀ w2 : Int32, w2 = (if ¬ x0 = 0 then (if ¬ x0 = (1 : Int32) then ((((4095 : Int32) * x1) / (255 : Int32)) + ((3 : Int32) * ((((4095 : Int32) * x1) * x1) / (65025 : Int32)))) / (4 : Int32) else (((4095 : Int32) * x1) * x1) / (65025 : Int32)) else ((4095 : Int32) * x1) / (255 : Int32)) → ps_At mX3_level d 45 [] [.int w2] g Q := by
    rintro _ rfl
    refine sX3_level_45 ?_
    subst h
    exact ⟨rfl, hk⟩
  refine ⟨by decide, _, rfl, by decide, by decide, _, rfl, by decide, ?_⟩
  refine And.intro (fun hc1 => ?_) (fun hc1 => ?_)
  · refine sX3_level_29 ?_
    have kJ6 : ∀ w5 : Int32, w5 = (if ¬ x0 = (1 : Int32) then ((((4095 : Int32) * x1) / (255 : Int32)) + ((3 : Int32) * ((((4095 : Int32) * x1) * x1) / (65025 : Int32)))) / (4 : Int32) else (((4095 : Int32) * x1) * x1) / (65025 : Int32)) → ps_At mX3_level d 45 [] [.int w5] g Q := by
      rintro _ rfl
      exact ps_weak (kJ3 _ (if_pos (hc1)).symm) trivial
    refine And.intro (fun hc4 => ?_) (fun hc4 => ?_)
    · refine sX3_level_38 ?_
      refine ⟨by decide, _, rfl, ?_⟩
      exact ps_weak (kJ6 _ (if_pos (hc4)).symm) trivial
    · exact ps_weak (kJ6 _ (if_neg (hc4)).symm) trivial
  · exact ps_weak (kJ3 _ (if_neg (hc1)).symm) trivial
noncomputable def fX3_byRow (g : ps_G) (x0 : Nat) (x1 : Int32) (x2 : Int32) (x3 : Int32) (x4 : Int32) (x5 : Int32) : Option (Int32) := Option.bind (q_fR 3 0 g x0) fun v1 => Option.bind (v1) fun a2 => Option.bind (q_aI g a2 ((x1 * (10 : Int32)) + x2)) fun v3 => Option.bind (q_fR 3 0 g x0) fun v4 => Option.bind (v4) fun a5 => Option.bind (q_aI g a5 (((x1 * (10 : Int32)) + x2) + (1 : Int32))) fun v6 => Option.bind (q_fR 3 0 g x0) fun v7 => Option.bind (v7) fun a8 => Option.bind (q_aI g a8 (((x1 * (10 : Int32)) + x2) + (2 : Int32))) fun v9 => some (q_shr (((v3 * x3) + (v6 * x4)) + (v9 * x5)) (10 : Int32))
theorem rX3_byRow {d : Nat} {Q : ps_Rs → ps_G → Prop} {g : ps_G} {x0 : Nat} {x1 : Int32} {x2 : Int32} {x3 : Int32} {x4 : Int32} {x5 : Int32} {r : Int32} (h : fX3_byRow g x0 x1 x2 x3 x4 x5 = some r) (hk : Q (.inl (some (.int r))) g) : ps_Ok mX3_byRow d [.ref x0, .int x1, .int x2, .int x3, .int x4, .int x5] g Q := by
  unfold fX3_byRow at h
  refine sX3_byRow_0 ?_
  replace h := q_be h
  obtain ⟨v1, hv, h⟩ := h
  replace hv := q_fR_e hv
  obtain ⟨_, cv1, dv1⟩ := hv
  replace h := q_be h
  obtain ⟨a2, ea2, h⟩ := h
  subst ea2
  replace h := q_be h
  obtain ⟨v3, hv, h⟩ := h
  replace hv := q_aI_e hv
  obtain ⟨_, _, cv3, iv3, yv3⟩ := hv
  replace h := q_be h
  obtain ⟨v4, hv, h⟩ := h
  replace hv := q_fR_e hv
  obtain ⟨_, cv4, dv4⟩ := hv
  replace h := q_be h
  obtain ⟨a5, ea5, h⟩ := h
  subst ea5
  replace h := q_be h
  obtain ⟨v6, hv, h⟩ := h
  replace hv := q_aI_e hv
  obtain ⟨_, _, cv6, iv6, yv6⟩ := hv
  replace h := q_be h
  obtain ⟨v7, hv, h⟩ := h
  replace hv := q_fR_e hv
  obtain ⟨_, cv7, dv7⟩ := hv
  replace h := q_be h
  obtain ⟨a8, ea8, h⟩ := h
  subst ea8
  replace h := q_be h
  obtain ⟨v9, hv, h⟩ := h
  replace hv := q_aI_e hv
  obtain ⟨_, _, cv9, iv9, yv9⟩ := hv
  cases h
  exact ⟨by decide, ⟨some _, rfl⟩, _, _, cv1, dv1, _, _, cv3, iv3, _, yv3, ⟨some _, rfl⟩, _, _, cv4, dv4, _, _, cv6, iv6, _, yv6, ⟨some _, rfl⟩, _, _, cv7, dv7, _, _, cv9, iv9, _, yv9, rfl, hk⟩
noncomputable def bX3_nearestLevel_4 (g : ps_G) (x0 : Nat) (x1 : Int32) (x2 : Int32) (x3 : Int32) : Option ((Int32 × Int32) ⊕ (Int32)) := if (256 : Int32) ≤ x3 then (some (.inr x2)) else (Option.bind (q_fR 3 2 g x0) fun v3 => Option.bind (v3) fun a4 => Option.bind (q_aI g a4 x3) fun v5 => Option.bind (q_fR 3 2 g x0) fun v6 => Option.bind (v6) fun a7 => Option.bind (q_aI g a7 x2) fun v8 => some (.inl ((if (fJ9_abs_0f7a4 (v8 - x1)) ≤ (fJ9_abs_0f7a4 (v5 - x1)) then x2 else x3), x3 + (1 : Int32))))
theorem pbX3_nearestLevel_4 {d : Nat} {Q : ps_Rs → ps_G → Prop} {g : ps_G} {x0 : Nat} {x1 : Int32} {x2 : Int32} {x3 : Int32} {x : (Int32 × Int32) ⊕ (Int32)} (h : bX3_nearestLevel_4 g x0 x1 x2 x3 = some x) (hh : ∀ s' : Int32 × Int32, x = .inl s' → ps_At mX3_nearestLevel (d + 1) 4 [(0, .ref x0), (1, .int x1), (2, .int s'.1), (3, .int s'.2)] [] g Q) (he : ∀ r' : Int32, x = .inr r' → ps_At mX3_nearestLevel (d + 1) 44 [(2, .int r')] [] g Q) : ps_At mX3_nearestLevel (d + 1) 4 [(0, .ref x0), (1, .int x1), (2, .int x2), (3, .int x3)] [] g Q := by
  unfold bX3_nearestLevel_4 at h
  refine sX3_nearestLevel_4 ?_
  refine And.intro (fun hc1 => ?_) (fun hc1 => ?_)
  · replace h := q_ifp (hc1) h
    exact ps_weak (he x2 (Option.some.inj h).symm) ⟨rfl, trivial⟩
  · replace h := q_ifn (hc1) h
    replace h := q_be h
    obtain ⟨v3, hv, h⟩ := h
    replace hv := q_fR_e hv
    obtain ⟨_, cv3, dv3⟩ := hv
    replace h := q_be h
    obtain ⟨a4, ea4, h⟩ := h
    subst ea4
    replace h := q_be h
    obtain ⟨v5, hv, h⟩ := h
    replace hv := q_aI_e hv
    obtain ⟨_, _, cv5, iv5, yv5⟩ := hv
    refine ⟨⟨some _, rfl⟩, _, _, cv3, dv3, _, _, cv5, iv5, _, yv5, ?_⟩
    refine rJ9_abs_0f7a4 rfl ?_
    replace h := q_be h
    obtain ⟨v6, hv, h⟩ := h
    replace hv := q_fR_e hv
    obtain ⟨_, cv6, dv6⟩ := hv
    replace h := q_be h
    obtain ⟨a7, ea7, h⟩ := h
    subst ea7
    replace h := q_be h
    obtain ⟨v8, hv, h⟩ := h
    replace hv := q_aI_e hv
    obtain ⟨_, _, cv8, iv8, yv8⟩ := hv
    refine ⟨⟨some _, rfl⟩, _, _, cv6, dv6, _, _, cv8, iv8, _, yv8, ?_⟩
    refine rJ9_abs_0f7a4 rfl ?_
    have kJ11 : ∀ w10 : Int32, w10 = (if (fJ9_abs_0f7a4 (v8 - x1)) ≤ (fJ9_abs_0f7a4 (v5 - x1)) then x2 else x3) → ps_At mX3_nearestLevel (d + 1) 38 [(0, .ref x0), (1, .int x1), (2, .int w10), (3, .int x3)] [] g Q := by
      rintro _ rfl
      refine sX3_nearestLevel_38 ?_
      refine ⟨by decide, ?_⟩
      exact ps_weak (hh ((if (fJ9_abs_0f7a4 (v8 - x1)) ≤ (fJ9_abs_0f7a4 (v5 - x1)) then x2 else x3), x3 + (1 : Int32)) (Option.some.inj h).symm) ⟨rfl, rfl, rfl, rfl, trivial⟩
    refine And.intro (fun hc9 => ?_) (fun hc9 => ?_)
    · exact ps_weak (kJ11 _ (if_pos (hc9)).symm) ⟨rfl, rfl, rfl, rfl, trivial⟩
    · refine ⟨by decide, ?_⟩
      exact ps_weak (kJ11 _ (if_neg (hc9)).symm) ⟨rfl, rfl, rfl, rfl, trivial⟩
noncomputable def fX3_nearestLevel (g : ps_G) (x0 : Nat) (x1 : Int32) : Option (Int32) := Option.bind (q_lp (fun s => bX3_nearestLevel_4 g x0 x1 s.1 s.2) ((0 : Int32), (1 : Int32))) fun s14 => some s14
theorem rX3_nearestLevel {d : Nat} {Q : ps_Rs → ps_G → Prop} {g : ps_G} {x0 : Nat} {x1 : Int32} {r : Int32} (h : fX3_nearestLevel g x0 x1 = some r) (hk : Q (.inl (some (.int r))) g) : ps_Ok mX3_nearestLevel (d + 1) [.ref x0, .int x1] g Q := by
  unfold fX3_nearestLevel at h
  refine sX3_nearestLevel_0 ?_
  refine ⟨by decide, by decide, ?_⟩
  replace h := q_be h
  obtain ⟨s14, hl, h⟩ := h
  refine ps_weak (q_lp_ok hl (fun s => ps_At mX3_nearestLevel (d + 1) 4 [(0, .ref x0), (1, .int x1), (2, .int s.1), (3, .int s.2)] [] g Q) (fun r => ps_At mX3_nearestLevel (d + 1) 44 [(2, .int r)] [] g Q) (fun s x hb hh he => pbX3_nearestLevel_4 hb hh he) ?_) ⟨rfl, rfl, rfl, rfl, trivial⟩
  refine (?_ : ps_At mX3_nearestLevel (d + 1) 44 [(2, .int s14)] [] g Q)
  refine sX3_nearestLevel_44 ?_
  cases h
  exact ⟨rfl, hk⟩
noncomputable def bX3_translate_19 (x0 : Nat) (x1 : Nat) (x2 : Nat) (x3 : Int32) (x4 : Int32) (x5 : Int32) (x6 : Int64) (x8 : Int32) (g : ps_G) : Option ((Int32 × ps_G) ⊕ (ps_G)) := if (9 : Int32) ≤ x8 then (some (.inr g)) else (Option.bind (q_fR 3 3 g x0) fun v6 => Option.bind (v6) fun a7 => Option.bind (q_ob 3 g x0) fun u8 => Option.bind (fX3_cofactor g x0 x4 (q_rem x8 (3 : Int32)) (x8 / (3 : Int32))) fun v9 => Option.bind (q_wL g a7 x8 v9) fun g10 => some (.inl (x8 + (1 : Int32), g10)))
theorem pbX3_translate_19 {d : Nat} {Q : ps_Rs → ps_G → Prop}  {x0 : Nat} {x1 : Nat} {x2 : Nat} {x3 : Int32} {x4 : Int32} {x5 : Int32} {x6 : Int64} {x8 : Int32} {g : ps_G} {x : (Int32 × ps_G) ⊕ (ps_G)} (h : bX3_translate_19 x0 x1 x2 x3 x4 x5 x6 x8 g = some x) (hh : ∀ s' : Int32 × ps_G, x = .inl s' → ps_At mX3_translate (d + 2) 19 [(0, .ref x0), (1, .ref x1), (2, .ref x2), (3, .int x3), (4, .int x4), (5, .int x5), (6, .long x6), (8, .int s'.1)] [] s'.2 Q) (he : ∀ r' : ps_G, x = .inr r' → ps_At mX3_translate (d + 2) 53 [(0, .ref x0), (1, .ref x1), (2, .ref x2), (3, .int x3), (4, .int x4), (5, .int x5), (6, .long x6)] [] r' Q) : ps_At mX3_translate (d + 2) 19 [(0, .ref x0), (1, .ref x1), (2, .ref x2), (3, .int x3), (4, .int x4), (5, .int x5), (6, .long x6), (8, .int x8)] [] g Q := by
  unfold bX3_translate_19 at h
  refine sX3_translate_19 ?_
  refine And.intro (fun hc4 => ?_) (fun hc4 => ?_)
  · replace h := q_ifp (hc4) h
    exact ps_weak (he g (Option.some.inj h).symm) ⟨rfl, rfl, rfl, rfl, rfl, rfl, rfl, trivial⟩
  · replace h := q_ifn (hc4) h
    replace h := q_be h
    obtain ⟨v6, hv, h⟩ := h
    replace hv := q_fR_e hv
    obtain ⟨_, cv6, dv6⟩ := hv
    replace h := q_be h
    obtain ⟨a7, ea7, h⟩ := h
    subst ea7
    replace h := q_be h
    obtain ⟨u8, hv, h⟩ := h
    replace hv := q_ob_e hv
    obtain ⟨_, cu8⟩ := hv
    replace h := q_be h
    obtain ⟨v9, hv, h⟩ := h
    refine ⟨⟨some _, rfl⟩, _, _, cv6, dv6, ⟨some _, rfl⟩, by decide, _, rfl, by decide, _, rfl, ⟨_, cu8⟩, ?_⟩
    refine rX3_cofactor hv ?_
    replace h := q_be h
    obtain ⟨g10, hv, h⟩ := h
    replace hv := q_wL_e hv
    obtain ⟨_, _, cg10, ig10, yg10⟩ := hv
    refine ⟨_, _, cg10, ig10, _, yg10, by decide, ?_⟩
    exact ps_weak (hh (x8 + (1 : Int32), g10) (Option.some.inj h).symm) ⟨rfl, rfl, rfl, rfl, rfl, rfl, rfl, rfl, trivial⟩
noncomputable def bX3_translate_56 (x0 : Nat) (x1 : Nat) (x2 : Nat) (x3 : Int32) (x4 : Int32) (x5 : Int32) (x6 : Int64) (x8 : Int32) (g : ps_G) : Option ((Int32 × ps_G) ⊕ (ps_G)) := if (256 : Int32) ≤ x8 then (some (.inr g)) else (Option.bind (q_fR 3 2 g x0) fun v16 => Option.bind (v16) fun a17 => Option.bind (q_fR 3 0 g x0) fun v18 => Option.bind (v18) fun a19 => Option.bind (q_aI g a19 ((x4 * (10 : Int32)) + (9 : Int32))) fun v20 => Option.bind (q_wI g a17 x8 (fX3_level v20 x8)) fun g21 => some (.inl (x8 + (1 : Int32), g21)))
theorem pbX3_translate_56 {d : Nat} {Q : ps_Rs → ps_G → Prop}  {x0 : Nat} {x1 : Nat} {x2 : Nat} {x3 : Int32} {x4 : Int32} {x5 : Int32} {x6 : Int64} {x8 : Int32} {g : ps_G} {x : (Int32 × ps_G) ⊕ (ps_G)} (h : bX3_translate_56 x0 x1 x2 x3 x4 x5 x6 x8 g = some x) (hh : ∀ s' : Int32 × ps_G, x = .inl s' → ps_At mX3_translate (d + 2) 56 [(0, .ref x0), (1, .ref x1), (2, .ref x2), (3, .int x3), (4, .int x4), (5, .int x5), (6, .long x6), (8, .int s'.1)] [] s'.2 Q) (he : ∀ r' : ps_G, x = .inr r' → ps_At mX3_translate (d + 2) 95 [(0, .ref x0), (1, .ref x1), (2, .ref x2), (3, .int x3), (5, .int x5), (6, .long x6)] [] r' Q) : ps_At mX3_translate (d + 2) 56 [(0, .ref x0), (1, .ref x1), (2, .ref x2), (3, .int x3), (4, .int x4), (5, .int x5), (6, .long x6), (8, .int x8)] [] g Q := by
  unfold bX3_translate_56 at h
  refine sX3_translate_56 ?_
  refine And.intro (fun hc14 => ?_) (fun hc14 => ?_)
  · replace h := q_ifp (hc14) h
    exact ps_weak (he g (Option.some.inj h).symm) ⟨rfl, rfl, rfl, rfl, rfl, rfl, trivial⟩
  · replace h := q_ifn (hc14) h
    replace h := q_be h
    obtain ⟨v16, hv, h⟩ := h
    replace hv := q_fR_e hv
    obtain ⟨_, cv16, dv16⟩ := hv
    replace h := q_be h
    obtain ⟨a17, ea17, h⟩ := h
    subst ea17
    replace h := q_be h
    obtain ⟨v18, hv, h⟩ := h
    replace hv := q_fR_e hv
    obtain ⟨_, cv18, dv18⟩ := hv
    replace h := q_be h
    obtain ⟨a19, ea19, h⟩ := h
    subst ea19
    replace h := q_be h
    obtain ⟨v20, hv, h⟩ := h
    replace hv := q_aI_e hv
    obtain ⟨_, _, cv20, iv20, yv20⟩ := hv
    refine ⟨⟨some _, rfl⟩, _, _, cv16, dv16, ⟨some _, rfl⟩, _, _, cv18, dv18, _, _, cv20, iv20, _, yv20, ?_⟩
    refine rX3_level rfl ?_
    replace h := q_be h
    obtain ⟨g21, hv, h⟩ := h
    replace hv := q_wI_e hv
    obtain ⟨_, _, cg21, pg21, ig21, yg21⟩ := hv
    refine ⟨_, _, cg21, pg21, ig21, _, yg21, by decide, ?_⟩
    exact ps_weak (hh (x8 + (1 : Int32), g21) (Option.some.inj h).symm) ⟨rfl, rfl, rfl, rfl, rfl, rfl, rfl, rfl, trivial⟩
noncomputable def bX3_translate_233 (g : ps_G) (x0 : Nat) (x1 : Nat) (x2 : Nat) (x3 : Int32) (x5 : Int32) (x6 : Int64) (x8 : Int32) (x9 : Int32) (x13 : Int64) (x15 : Int64) (x17 : Int64) (x19 : Int32) (x20 : Int32) : Option ((Int32 × Int32) ⊕ (Int32)) := if (3 : Int32) ≤ x20 then (some (.inr x19)) else (Option.bind (q_fR 3 3 g x0) fun v48 => Option.bind (v48) fun a49 => Option.bind (q_aL g a49 ((3 : Int32) * x20)) fun v50 => Option.bind (q_fR 3 3 g x0) fun v51 => Option.bind (v51) fun a52 => Option.bind (q_aL g a52 (((3 : Int32) * x20) + (1 : Int32))) fun v53 => Option.bind (q_fR 3 3 g x0) fun v54 => Option.bind (v54) fun a55 => Option.bind (q_aL g a55 (((3 : Int32) * x20) + (2 : Int32))) fun v56 => Option.bind (q_ldiv ((((x13 * v50) + (x15 * v53)) + (x17 * v56)) * (1024 : Int64)) x6) fun v57 => Option.bind (q_ob 3 g x0) fun u58 => Option.bind (fX3_nearestLevel g x0 (Int64.toInt32 (fJ9_max_f86c9 (0 : Int64) (fJ9_min_f86c9 (4095 : Int64) v57)))) fun v59 => some (.inl (x19 ||| (q_shl v59 ((16 : Int32) - ((8 : Int32) * x20))), x20 + (1 : Int32))))
theorem pbX3_translate_233 {d : Nat} {Q : ps_Rs → ps_G → Prop} {g : ps_G} {x0 : Nat} {x1 : Nat} {x2 : Nat} {x3 : Int32} {x5 : Int32} {x6 : Int64} {x8 : Int32} {x9 : Int32} {x13 : Int64} {x15 : Int64} {x17 : Int64} {x19 : Int32} {x20 : Int32} {x : (Int32 × Int32) ⊕ (Int32)} (h : bX3_translate_233 g x0 x1 x2 x3 x5 x6 x8 x9 x13 x15 x17 x19 x20 = some x) (hh : ∀ s' : Int32 × Int32, x = .inl s' → ps_At mX3_translate (d + 2) 233 [(0, .ref x0), (1, .ref x1), (2, .ref x2), (3, .int x3), (5, .int x5), (6, .long x6), (8, .int x8), (9, .int x9), (13, .long x13), (15, .long x15), (17, .long x17), (19, .int s'.1), (20, .int s'.2)] [] g Q) (he : ∀ r' : Int32, x = .inr r' → ps_At mX3_translate (d + 2) 327 [(0, .ref x0), (1, .ref x1), (2, .ref x2), (3, .int x3), (5, .int x5), (6, .long x6), (8, .int x8), (9, .int x9), (19, .int r')] [] g Q) : ps_At mX3_translate (d + 2) 233 [(0, .ref x0), (1, .ref x1), (2, .ref x2), (3, .int x3), (5, .int x5), (6, .long x6), (8, .int x8), (9, .int x9), (13, .long x13), (15, .long x15), (17, .long x17), (19, .int x19), (20, .int x20)] [] g Q := by
  unfold bX3_translate_233 at h
  refine sX3_translate_233 ?_
  refine And.intro (fun hc46 => ?_) (fun hc46 => ?_)
  · replace h := q_ifp (hc46) h
    exact ps_weak (he x19 (Option.some.inj h).symm) ⟨rfl, rfl, rfl, rfl, rfl, rfl, rfl, rfl, rfl, trivial⟩
  · replace h := q_ifn (hc46) h
    replace h := q_be h
    obtain ⟨v48, hv, h⟩ := h
    replace hv := q_fR_e hv
    obtain ⟨_, cv48, dv48⟩ := hv
    replace h := q_be h
    obtain ⟨a49, ea49, h⟩ := h
    subst ea49
    replace h := q_be h
    obtain ⟨v50, hv, h⟩ := h
    replace hv := q_aL_e hv
    obtain ⟨_, _, cv50, iv50, yv50⟩ := hv
    replace h := q_be h
    obtain ⟨v51, hv, h⟩ := h
    replace hv := q_fR_e hv
    obtain ⟨_, cv51, dv51⟩ := hv
    replace h := q_be h
    obtain ⟨a52, ea52, h⟩ := h
    subst ea52
    replace h := q_be h
    obtain ⟨v53, hv, h⟩ := h
    replace hv := q_aL_e hv
    obtain ⟨_, _, cv53, iv53, yv53⟩ := hv
    replace h := q_be h
    obtain ⟨v54, hv, h⟩ := h
    replace hv := q_fR_e hv
    obtain ⟨_, cv54, dv54⟩ := hv
    replace h := q_be h
    obtain ⟨a55, ea55, h⟩ := h
    subst ea55
    replace h := q_be h
    obtain ⟨v56, hv, h⟩ := h
    replace hv := q_aL_e hv
    obtain ⟨_, _, cv56, iv56, yv56⟩ := hv
    replace h := q_be h
    obtain ⟨v57, hv, h⟩ := h
    replace hv := q_ldiv_e hv
    obtain ⟨zv57, yv57⟩ := hv
    refine ⟨⟨some _, rfl⟩, _, _, cv48, dv48, _, _, cv50, iv50, _, yv50, ⟨some _, rfl⟩, _, _, cv51, dv51, _, _, cv53, iv53, _, yv53, ⟨some _, rfl⟩, _, _, cv54, dv54, _, _, cv56, iv56, _, yv56, zv57, _, yv57, by decide, ⟨some _, rfl⟩, ?_⟩
    refine rJ9_min_f86c9 rfl ?_
    refine rJ9_max_f86c9 rfl ?_
    replace h := q_be h
    obtain ⟨u58, hv, h⟩ := h
    replace hv := q_ob_e hv
    obtain ⟨_, cu58⟩ := hv
    replace h := q_be h
    obtain ⟨v59, hv, h⟩ := h
    refine ⟨⟨_, cu58⟩, ?_⟩
    refine rX3_nearestLevel hv ?_
    refine ⟨by decide, by decide, ?_⟩
    exact ps_weak (hh (x19 ||| (q_shl v59 ((16 : Int32) - ((8 : Int32) * x20))), x20 + (1 : Int32)) (Option.some.inj h).symm) ⟨rfl, rfl, rfl, rfl, rfl, rfl, rfl, rfl, rfl, rfl, rfl, rfl, rfl, trivial⟩
noncomputable def bX3_translate_112 (x0 : Nat) (x1 : Nat) (x2 : Nat) (x3 : Int32) (x5 : Int32) (x6 : Int64) (x8 : Int32) (x9 : Int32) (g : ps_G) : Option ((Int32 × ps_G) ⊕ (ps_G)) := if x5 ≤ x9 then (some (.inr g)) else (Option.bind (q_len g x1) fun v30 => if v30 ≤ x9 then (some (.inr g)) else (Option.bind (q_len g x2) fun v33 => if v33 ≤ x9 then (some (.inr g)) else (Option.bind (q_aI g x1 x9) fun v36 => Option.bind (q_aI g x1 x9) fun v37 => Option.bind (q_aI g x1 x9) fun v38 => Option.bind (q_ob 3 g x0) fun u39 => Option.bind (fX3_byRow g x0 x3 (0 : Int32) (fX3_level x8 (fX11_red v36)) (fX3_level x8 (fX11_green v37)) (fX3_level x8 (fX11_blue v38))) fun v40 => Option.bind (q_ob 3 g x0) fun u41 => Option.bind (fX3_byRow g x0 x3 (3 : Int32) (fX3_level x8 (fX11_red v36)) (fX3_level x8 (fX11_green v37)) (fX3_level x8 (fX11_blue v38))) fun v42 => Option.bind (q_ob 3 g x0) fun u43 => Option.bind (fX3_byRow g x0 x3 (6 : Int32) (fX3_level x8 (fX11_red v36)) (fX3_level x8 (fX11_green v37)) (fX3_level x8 (fX11_blue v38))) fun v44 => Option.bind (q_aI g x1 x9) fun v45 => Option.bind (q_lp (fun s => bX3_translate_233 g x0 x1 x2 x3 x5 x6 x8 x9 (Int32.toInt64 v40) (Int32.toInt64 v42) (Int32.toInt64 v44) s.1 s.2) (v45 &&& (-16777216 : Int32), (0 : Int32))) fun s62 => Option.bind (q_wI g x2 x9 s62) fun g63 => some (.inl (x9 + (1 : Int32), g63)))))
theorem pbX3_translate_112 {d : Nat} {Q : ps_Rs → ps_G → Prop}  {x0 : Nat} {x1 : Nat} {x2 : Nat} {x3 : Int32} {x5 : Int32} {x6 : Int64} {x8 : Int32} {x9 : Int32} {g : ps_G} {x : (Int32 × ps_G) ⊕ (ps_G)} (h : bX3_translate_112 x0 x1 x2 x3 x5 x6 x8 x9 g = some x) (hh : ∀ s' : Int32 × ps_G, x = .inl s' → ps_At mX3_translate (d + 2) 112 [(0, .ref x0), (1, .ref x1), (2, .ref x2), (3, .int x3), (5, .int x5), (6, .long x6), (8, .int x8), (9, .int s'.1)] [] s'.2 Q) (he : ∀ r' : ps_G, x = .inr r' → ps_At mX3_translate (d + 2) 339 [] [] r' Q) : ps_At mX3_translate (d + 2) 112 [(0, .ref x0), (1, .ref x1), (2, .ref x2), (3, .int x3), (5, .int x5), (6, .long x6), (8, .int x8), (9, .int x9)] [] g Q := by
  unfold bX3_translate_112 at h
  refine sX3_translate_112 ?_
  refine And.intro (fun hc28 => ?_) (fun hc28 => ?_)
  · replace h := q_ifp (hc28) h
    exact ps_weak (he g (Option.some.inj h).symm) trivial
  · replace h := q_ifn (hc28) h
    replace h := q_be h
    obtain ⟨v30, hv, h⟩ := h
    replace hv := q_len_e hv
    obtain ⟨_, _, cv30, qv30, yv30⟩ := hv
    refine ⟨⟨some _, rfl⟩, _, _, cv30, qv30, _, yv30, ?_⟩
    refine And.intro (fun hc31 => ?_) (fun hc31 => ?_)
    · replace h := q_ifp (hc31) h
      exact ps_weak (he g (Option.some.inj h).symm) trivial
    · replace h := q_ifn (hc31) h
      replace h := q_be h
      obtain ⟨v33, hv, h⟩ := h
      replace hv := q_len_e hv
      obtain ⟨_, _, cv33, qv33, yv33⟩ := hv
      refine ⟨⟨some _, rfl⟩, _, _, cv33, qv33, _, yv33, ?_⟩
      refine And.intro (fun hc34 => ?_) (fun hc34 => ?_)
      · replace h := q_ifp (hc34) h
        exact ps_weak (he g (Option.some.inj h).symm) trivial
      · replace h := q_ifn (hc34) h
        replace h := q_be h
        obtain ⟨v36, hv, h⟩ := h
        replace hv := q_aI_e hv
        obtain ⟨_, _, cv36, iv36, yv36⟩ := hv
        refine ⟨⟨some _, rfl⟩, _, _, cv36, iv36, _, yv36, ?_⟩
        refine rX11_red rfl ?_
        refine rX3_level rfl ?_
        replace h := q_be h
        obtain ⟨v37, hv, h⟩ := h
        replace hv := q_aI_e hv
        obtain ⟨_, _, cv37, iv37, yv37⟩ := hv
        refine ⟨by decide, ⟨some _, rfl⟩, _, _, cv37, iv37, _, yv37, ?_⟩
        refine rX11_green rfl ?_
        refine rX3_level rfl ?_
        refine sX3_translate_159 ?_
        replace h := q_be h
        obtain ⟨v38, hv, h⟩ := h
        replace hv := q_aI_e hv
        obtain ⟨_, _, cv38, iv38, yv38⟩ := hv
        refine ⟨by decide, ⟨some _, rfl⟩, _, _, cv38, iv38, _, yv38, ?_⟩
        refine rX11_blue rfl ?_
        refine rX3_level rfl ?_
        replace h := q_be h
        obtain ⟨u39, hv, h⟩ := h
        replace hv := q_ob_e hv
        obtain ⟨_, cu39⟩ := hv
        replace h := q_be h
        obtain ⟨v40, hv, h⟩ := h
        refine ⟨by decide, ⟨some _, rfl⟩, ⟨_, cu39⟩, ?_⟩
        refine rX3_byRow hv ?_
        replace h := q_be h
        obtain ⟨u41, hv, h⟩ := h
        replace hv := q_ob_e hv
        obtain ⟨_, cu41⟩ := hv
        replace h := q_be h
        obtain ⟨v42, hv, h⟩ := h
        refine ⟨by decide, ⟨some _, rfl⟩, ⟨_, cu41⟩, ?_⟩
        refine rX3_byRow hv ?_
        refine sX3_translate_202 ?_
        replace h := q_be h
        obtain ⟨u43, hv, h⟩ := h
        replace hv := q_ob_e hv
        obtain ⟨_, cu43⟩ := hv
        replace h := q_be h
        obtain ⟨v44, hv, h⟩ := h
        refine ⟨by decide, ⟨some _, rfl⟩, ⟨_, cu43⟩, ?_⟩
        refine rX3_byRow hv ?_
        replace h := q_be h
        obtain ⟨v45, hv, h⟩ := h
        replace hv := q_aI_e hv
        obtain ⟨_, _, cv45, iv45, yv45⟩ := hv
        refine ⟨by decide, ⟨some _, rfl⟩, _, _, cv45, iv45, _, yv45, by decide, by decide, ?_⟩
        replace h := q_be h
        obtain ⟨s62, hl, h⟩ := h
        refine ps_weak (q_lp_ok hl (fun s => ps_At mX3_translate (d + 2) 233 [(0, .ref x0), (1, .ref x1), (2, .ref x2), (3, .int x3), (5, .int x5), (6, .long x6), (8, .int x8), (9, .int x9), (13, .long (Int32.toInt64 v40)), (15, .long (Int32.toInt64 v42)), (17, .long (Int32.toInt64 v44)), (19, .int s.1), (20, .int s.2)] [] g Q) (fun r => ps_At mX3_translate (d + 2) 327 [(0, .ref x0), (1, .ref x1), (2, .ref x2), (3, .int x3), (5, .int x5), (6, .long x6), (8, .int x8), (9, .int x9), (19, .int r)] [] g Q) (fun s x hb hh he => pbX3_translate_233 hb hh he) ?_) ⟨rfl, rfl, rfl, rfl, rfl, rfl, rfl, rfl, rfl, rfl, rfl, rfl, rfl, trivial⟩
        refine (?_ : ps_At mX3_translate (d + 2) 327 [(0, .ref x0), (1, .ref x1), (2, .ref x2), (3, .int x3), (5, .int x5), (6, .long x6), (8, .int x8), (9, .int x9), (19, .int s62)] [] g Q)
        refine sX3_translate_327 ?_
        replace h := q_be h
        obtain ⟨g63, hv, h⟩ := h
        replace hv := q_wI_e hv
        obtain ⟨_, _, cg63, pg63, ig63, yg63⟩ := hv
        refine ⟨⟨some _, rfl⟩, _, _, cg63, pg63, ig63, _, yg63, by decide, ?_⟩
        exact ps_weak (hh (x9 + (1 : Int32), g63) (Option.some.inj h).symm) ⟨rfl, rfl, rfl, rfl, rfl, rfl, rfl, rfl, trivial⟩
noncomputable def jX3_translate_339 (g : ps_G) : Option (ps_G) := some g
theorem pjX3_translate_339 {d : Nat} {Q : ps_Rs → ps_G → Prop} {g : ps_G}  {r : ps_G} (h : jX3_translate_339 g = some r) (hk : Q (.inl none) r) : ps_At mX3_translate (d + 2) 339 [] [] g Q := by
  unfold jX3_translate_339 at h
  refine sX3_translate_339 ?_
  cases h
  exact ⟨rfl, rfl, hk⟩
noncomputable def fX3_translate (g : ps_G) (x0 : Nat) (x1 : Nat) (x2 : Nat) (x3 : Int32) (x4 : Int32) (x5 : Int32) : Option (ps_G) := Option.bind (q_ob 3 g x0) fun u1 => Option.bind (fX3_determinant g x0 x4) fun v2 => if ¬ (lg_cmp v2 (0 : Int64)) = 0 then (Option.bind (q_lp (fun s => bX3_translate_19 x0 x1 x2 x3 x4 x5 v2 s.1 s.2) ((0 : Int32), g)) fun s13 => Option.bind (q_lp (fun s => bX3_translate_56 x0 x1 x2 x3 x4 x5 v2 s.1 s.2) ((0 : Int32), s13)) fun s24 => Option.bind (q_fR 3 0 s24 x0) fun v25 => Option.bind (v25) fun a26 => Option.bind (q_aI s24 a26 ((x3 * (10 : Int32)) + (9 : Int32))) fun v27 => Option.bind (q_lp (fun s => bX3_translate_112 x0 x1 x2 x3 x5 v2 v27 s.1 s.2) ((0 : Int32), s24)) fun s70 => jX3_translate_339 s70) else (some g)
theorem rX3_translate {d : Nat} {Q : ps_Rs → ps_G → Prop} {g : ps_G} {x0 : Nat} {x1 : Nat} {x2 : Nat} {x3 : Int32} {x4 : Int32} {x5 : Int32} {r : ps_G} (h : fX3_translate g x0 x1 x2 x3 x4 x5 = some r) (hk : Q (.inl none) r) : ps_Ok mX3_translate (d + 2) [.ref x0, .ref x1, .ref x2, .int x3, .int x4, .int x5] g Q := by
  unfold fX3_translate at h
  refine sX3_translate_0 ?_
  replace h := q_be h
  obtain ⟨u1, hv, h⟩ := h
  replace hv := q_ob_e hv
  obtain ⟨_, cu1⟩ := hv
  replace h := q_be h
  obtain ⟨v2, hv, h⟩ := h
  refine ⟨⟨some _, rfl⟩, ⟨_, cu1⟩, ?_⟩
  refine rX3_determinant hv ?_
  refine ⟨by decide, ?_⟩
  refine And.intro (fun hc3 => ?_) (fun hc3 => ?_)
  · replace h := q_ifp (hc3) h
    refine sX3_translate_16 ?_
    refine ⟨by decide, ?_⟩
    replace h := q_be h
    obtain ⟨s13, hl, h⟩ := h
    refine ps_weak (q_lp_ok hl (fun s => ps_At mX3_translate (d + 2) 19 [(0, .ref x0), (1, .ref x1), (2, .ref x2), (3, .int x3), (4, .int x4), (5, .int x5), (6, .long v2), (8, .int s.1)] [] s.2 Q) (fun r => ps_At mX3_translate (d + 2) 53 [(0, .ref x0), (1, .ref x1), (2, .ref x2), (3, .int x3), (4, .int x4), (5, .int x5), (6, .long v2)] [] r Q) (fun s x hb hh he => pbX3_translate_19 hb hh he) ?_) ⟨rfl, rfl, rfl, rfl, rfl, rfl, rfl, rfl, trivial⟩
    refine (?_ : ps_At mX3_translate (d + 2) 53 [(0, .ref x0), (1, .ref x1), (2, .ref x2), (3, .int x3), (4, .int x4), (5, .int x5), (6, .long v2)] [] s13 Q)
    refine sX3_translate_53 ?_
    refine ⟨by decide, ?_⟩
    replace h := q_be h
    obtain ⟨s24, hl, h⟩ := h
    refine ps_weak (q_lp_ok hl (fun s => ps_At mX3_translate (d + 2) 56 [(0, .ref x0), (1, .ref x1), (2, .ref x2), (3, .int x3), (4, .int x4), (5, .int x5), (6, .long v2), (8, .int s.1)] [] s.2 Q) (fun r => ps_At mX3_translate (d + 2) 95 [(0, .ref x0), (1, .ref x1), (2, .ref x2), (3, .int x3), (5, .int x5), (6, .long v2)] [] r Q) (fun s x hb hh he => pbX3_translate_56 hb hh he) ?_) ⟨rfl, rfl, rfl, rfl, rfl, rfl, rfl, rfl, trivial⟩
    refine (?_ : ps_At mX3_translate (d + 2) 95 [(0, .ref x0), (1, .ref x1), (2, .ref x2), (3, .int x3), (5, .int x5), (6, .long v2)] [] s24 Q)
    refine sX3_translate_95 ?_
    replace h := q_be h
    obtain ⟨v25, hv, h⟩ := h
    replace hv := q_fR_e hv
    obtain ⟨_, cv25, dv25⟩ := hv
    replace h := q_be h
    obtain ⟨a26, ea26, h⟩ := h
    subst ea26
    replace h := q_be h
    obtain ⟨v27, hv, h⟩ := h
    replace hv := q_aI_e hv
    obtain ⟨_, _, cv27, iv27, yv27⟩ := hv
    refine ⟨⟨some _, rfl⟩, _, _, cv25, dv25, _, _, cv27, iv27, _, yv27, by decide, by decide, ?_⟩
    replace h := q_be h
    obtain ⟨s70, hl, h⟩ := h
    refine ps_weak (q_lp_ok hl (fun s => ps_At mX3_translate (d + 2) 112 [(0, .ref x0), (1, .ref x1), (2, .ref x2), (3, .int x3), (5, .int x5), (6, .long v2), (8, .int v27), (9, .int s.1)] [] s.2 Q) (fun r => ps_At mX3_translate (d + 2) 339 [] [] r Q) (fun s x hb hh he => pbX3_translate_112 hb hh he) ?_) ⟨rfl, rfl, rfl, rfl, rfl, rfl, rfl, rfl, trivial⟩
    refine (?_ : ps_At mX3_translate (d + 2) 339 [] [] s70 Q)
    exact ps_weak (pjX3_translate_339 h hk) trivial
  · replace h := q_ifn (hc3) h
    cases h
    exact ⟨rfl, rfl, hk⟩
noncomputable def jX11_convert_47 (g : ps_G) (x0 : Nat) (x2 : Int32) (x3 : Int32) (x4 : Option Nat) (x5 : Nat) : Option ((String ⊕ Unit) × ps_G) := Option.bind (q_fR 11 10 g x0) fun v18 => Option.bind (v18) fun a19 => Option.bind (x4) fun a20 => Option.bind (q_fR 4 15 g a20) fun v21 => Option.bind (v21) fun a22 => Option.bind (q_fR 11 0 g x0) fun v23 => Option.bind (v23) fun a24 => Option.bind (q_fI 9 0 g a24) fun v25 => Option.bind (q_fR 11 0 g x0) fun v26 => Option.bind (v26) fun a27 => Option.bind (q_fI 9 1 g a27) fun v28 => Option.bind (q_ob 3 g a19) fun u29 => Option.bind (fX3_translate g a19 a22 x5 x2 x3 (v25 * v28)) fun v30 => Option.bind (q_ob 11 v30 x0) fun u31 => Option.bind (fX11_replacePixels v30 x0 a20 x5) fun v32 => some (.inr (), v32)
theorem pjX11_convert_47 {d : Nat} {Q : ps_Rs → ps_G → Prop} {g : ps_G} {x0 : Nat} {x2 : Int32} {x3 : Int32} {x4 : Option Nat} {x5 : Nat} {r : (String ⊕ Unit) × ps_G} (h : jX11_convert_47 g x0 x2 x3 x4 x5 = some r) (hk : Q (q_rV r.1) r.2) : ps_At mX11_convert (d + 8) 47 [(0, .ref x0), (2, .int x2), (3, .int x3), (4, va_rf x4), (5, .ref x5)] [] g Q := by
  unfold jX11_convert_47 at h
  refine sX11_convert_47 ?_
  replace h := q_be h
  obtain ⟨v18, hv, h⟩ := h
  replace hv := q_fR_e hv
  obtain ⟨_, cv18, dv18⟩ := hv
  replace h := q_be h
  obtain ⟨a19, ea19, h⟩ := h
  subst ea19
  replace h := q_be h
  obtain ⟨a20, ea20, h⟩ := h
  subst ea20
  replace h := q_be h
  obtain ⟨v21, hv, h⟩ := h
  replace hv := q_fR_e hv
  obtain ⟨_, cv21, dv21⟩ := hv
  replace h := q_be h
  obtain ⟨a22, ea22, h⟩ := h
  subst ea22
  replace h := q_be h
  obtain ⟨v23, hv, h⟩ := h
  replace hv := q_fR_e hv
  obtain ⟨_, cv23, dv23⟩ := hv
  replace h := q_be h
  obtain ⟨a24, ea24, h⟩ := h
  subst ea24
  replace h := q_be h
  obtain ⟨v25, hv, h⟩ := h
  replace hv := q_fI_e hv
  obtain ⟨_, cv25, dv25⟩ := hv
  replace h := q_be h
  obtain ⟨v26, hv, h⟩ := h
  replace hv := q_fR_e hv
  obtain ⟨_, cv26, dv26⟩ := hv
  replace h := q_be h
  obtain ⟨a27, ea27, h⟩ := h
  subst ea27
  replace h := q_be h
  obtain ⟨v28, hv, h⟩ := h
  replace hv := q_fI_e hv
  obtain ⟨_, cv28, dv28⟩ := hv
  replace h := q_be h
  obtain ⟨u29, hv, h⟩ := h
  replace hv := q_ob_e hv
  obtain ⟨_, cu29⟩ := hv
  replace h := q_be h
  obtain ⟨v30, hv, h⟩ := h
  refine ⟨⟨some _, rfl⟩, _, _, cv18, dv18, ⟨some _, rfl⟩, _, _, cv21, dv21, ⟨some _, rfl⟩, ⟨some _, rfl⟩, _, _, cv23, dv23, _, _, cv25, dv25, ⟨some _, rfl⟩, _, _, cv26, dv26, _, _, cv28, dv28, ⟨_, cu29⟩, ?_⟩
  refine rX3_translate hv ?_
  replace h := q_be h
  obtain ⟨u31, hv, h⟩ := h
  replace hv := q_ob_e hv
  obtain ⟨_, cu31⟩ := hv
  replace h := q_be h
  obtain ⟨v32, hv, h⟩ := h
  refine ⟨⟨some _, rfl⟩, ⟨some _, rfl⟩, ⟨some _, rfl⟩, ⟨_, cu31⟩, ?_⟩
  refine rX11_replacePixels hv ?_
  cases h
  exact ⟨rfl, rfl, hk⟩
noncomputable def fX11_convert (g : ps_G) (x0 : Nat) (x1 : Int32) (x2 : Int32) (x3 : Int32) : Option ((String ⊕ Unit) × ps_G) := q_tc (fX11_range g x2 (0 : Int32) (3 : Int32)) fun v1 g2 => q_tc (fX11_range g2 x3 (0 : Int32) (3 : Int32)) fun v3 g4 => Option.bind (q_ob 11 g4 x0) fun u5 => q_tc (fX11_knownPixels g4 x0 x1) fun v6 g7 => Option.bind (q_fR 11 10 g7 x0) fun v8 => Option.bind (v8) fun a9 => Option.bind (q_ob 3 g7 a9) fun u10 => Option.bind (fX3_determinant g7 a9 x3) fun v11 => q_tc (fX11_refuse g7 (if ¬ (lg_cmp v11 (0 : Int64)) = 0 then (0 : Int32) else (1 : Int32))) fun v15 g16 => Option.bind (q_nA .int g16 (576 : Int32)) fun g17 => jX11_convert_47 g17 x0 x2 x3 v6 g16.1
theorem rX11_convert {d : Nat} {Q : ps_Rs → ps_G → Prop} {g : ps_G} {x0 : Nat} {x1 : Int32} {x2 : Int32} {x3 : Int32} {r : (String ⊕ Unit) × ps_G} (h : fX11_convert g x0 x1 x2 x3 = some r) (hk : Q (q_rV r.1) r.2) : ps_Ok mX11_convert (d + 8) [.ref x0, .int x1, .int x2, .int x3] g Q := by
  unfold fX11_convert at h
  refine sX11_convert_0 ?_
  replace h := q_tc_e h
  rcases h with ⟨E, g2, hv, rfl⟩ | ⟨v1, g2, hv, h⟩
  · exact rX11_range hv ⟨rfl, hk⟩
  refine rX11_range hv ?_
  replace h := q_tc_e h
  rcases h with ⟨E, g4, hv, rfl⟩ | ⟨v3, g4, hv, h⟩
  · exact rX11_range hv ⟨rfl, hk⟩
  refine rX11_range hv ?_
  replace h := q_be h
  obtain ⟨u5, hv, h⟩ := h
  replace hv := q_ob_e hv
  obtain ⟨_, cu5⟩ := hv
  refine ⟨⟨some _, rfl⟩, ⟨_, cu5⟩, ?_⟩
  replace h := q_tc_e h
  rcases h with ⟨E, g7, hv, rfl⟩ | ⟨v6, g7, hv, h⟩
  · exact rX11_knownPixels hv hk
  refine rX11_knownPixels hv ?_
  replace h := q_be h
  obtain ⟨v8, hv, h⟩ := h
  replace hv := q_fR_e hv
  obtain ⟨_, cv8, dv8⟩ := hv
  replace h := q_be h
  obtain ⟨a9, ea9, h⟩ := h
  subst ea9
  replace h := q_be h
  obtain ⟨u10, hv, h⟩ := h
  replace hv := q_ob_e hv
  obtain ⟨_, cu10⟩ := hv
  replace h := q_be h
  obtain ⟨v11, hv, h⟩ := h
  refine ⟨_, _, rfl, by decide, ⟨some _, rfl⟩, _, _, cv8, dv8, ⟨_, cu10⟩, ?_⟩
  refine rX3_determinant hv ?_
  refine sX11_convert_27 ?_
  have kJ14 : ∀ w13 : Int32, w13 = (if ¬ (lg_cmp v11 (0 : Int64)) = 0 then (0 : Int32) else (1 : Int32)) → ps_At mX11_convert (d + 8) 37 [(0, .ref x0), (2, .int x2), (3, .int x3), (4, va_rf v6)] [.int w13] g7 Q := by
    rintro _ rfl
    refine sX11_convert_37 ?_
    replace h := q_tc_e h
    rcases h with ⟨E, g16, hv, rfl⟩ | ⟨v15, g16, hv, h⟩
    · exact rX11_refuse hv ⟨rfl, hk⟩
    refine rX11_refuse hv ?_
    replace h := q_be h
    obtain ⟨g17, hv, h⟩ := h
    replace hv := q_nA_e hv
    obtain ⟨ag17, bg17, yg17⟩ := hv
    refine ⟨Or.inl rfl, ag17, bg17, _, yg17, some _, _, rfl, by decide, ?_⟩
    refine ps_weak (lv' := [(0, .ref x0), (2, .int x2), (3, .int x3), (4, va_rf v6), (5, .ref g16.1)]) ?_ ⟨(by first | rfl | (cases v6 <;> rfl)), (by first | rfl | (cases v6 <;> rfl)), (by first | rfl | (cases v6 <;> rfl)), (by first | rfl | (cases v6 <;> rfl)), (by first | rfl | (cases v6 <;> rfl)), trivial⟩
    exact ps_weak (pjX11_convert_47 h hk) ⟨(by first | rfl | (cases v6 <;> rfl)), (by first | rfl | (cases v6 <;> rfl)), (by first | rfl | (cases v6 <;> rfl)), (by first | rfl | (cases v6 <;> rfl)), (by first | rfl | (cases v6 <;> rfl)), trivial⟩
  refine And.intro (fun hc12 => ?_) (fun hc12 => ?_)
  · refine sX11_convert_36 ?_
    exact ps_weak (kJ14 _ (if_pos (hc12)).symm) ⟨(by first | rfl | (cases v6 <;> rfl)), (by first | rfl | (cases v6 <;> rfl)), (by first | rfl | (cases v6 <;> rfl)), (by first | rfl | (cases v6 <;> rfl)), trivial⟩
  · exact ps_weak (kJ14 _ (if_neg (hc12)).symm) ⟨(by first | rfl | (cases v6 <;> rfl)), (by first | rfl | (cases v6 <;> rfl)), (by first | rfl | (cases v6 <;> rfl)), (by first | rfl | (cases v6 <;> rfl)), trivial⟩
noncomputable def bX3_findWidest_41 (g : ps_G) (x0 : Nat) (x1 : Int32) (x2 : Int32) (x3 : Int32) (x4 : Int32) (x5 : Int32) (x6 : Int32) : Option ((Int32 × Int32 × Int32) ⊕ (Int32 × Int32)) := Option.bind (q_fR 3 5 g x0) fun v9 => Option.bind (v9) fun a10 => Option.bind (q_aI g a10 x2) fun v11 => Option.bind (q_fR 3 6 g x0) fun v12 => Option.bind (v12) fun a13 => Option.bind (q_aI g a13 x2) fun v14 => if ((v11 + v14) ≤ x6) ∨ ((576 : Int32) ≤ x6) then (some (.inr (x4, x5))) else (Option.bind (q_fR 3 4 g x0) fun v18 => Option.bind (v18) fun a19 => Option.bind (q_aI g a19 x6) fun v20 => some (.inl (fJ9_min_7cf53 x4 ((q_shr v20 x3) &&& (255 : Int32)), fJ9_max_7cf53 x5 ((q_shr v20 x3) &&& (255 : Int32)), x6 + (1 : Int32))))
theorem pbX3_findWidest_41 {d : Nat} {Q : ps_Rs → ps_G → Prop} {g : ps_G} {x0 : Nat} {x1 : Int32} {x2 : Int32} {x3 : Int32} {x4 : Int32} {x5 : Int32} {x6 : Int32} {x : (Int32 × Int32 × Int32) ⊕ (Int32 × Int32)} (h : bX3_findWidest_41 g x0 x1 x2 x3 x4 x5 x6 = some x) (hh : ∀ s' : Int32 × Int32 × Int32, x = .inl s' → ps_At mX3_findWidest (d + 1) 41 [(0, .ref x0), (1, .int x1), (2, .int x2), (3, .int x3), (4, .int s'.1), (5, .int s'.2.1), (6, .int s'.2.2)] [] g Q) (he : ∀ r' : Int32 × Int32, x = .inr r' → ps_At mX3_findWidest (d + 1) 106 [(0, .ref x0), (1, .int x1), (2, .int x2), (3, .int x3), (4, .int r'.1), (5, .int r'.2)] [] g Q) : ps_At mX3_findWidest (d + 1) 41 [(0, .ref x0), (1, .int x1), (2, .int x2), (3, .int x3), (4, .int x4), (5, .int x5), (6, .int x6)] [] g Q := by
  unfold bX3_findWidest_41 at h
  refine sX3_findWidest_41 ?_
  replace h := q_be h
  obtain ⟨v9, hv, h⟩ := h
  replace hv := q_fR_e hv
  obtain ⟨_, cv9, dv9⟩ := hv
  replace h := q_be h
  obtain ⟨a10, ea10, h⟩ := h
  subst ea10
  replace h := q_be h
  obtain ⟨v11, hv, h⟩ := h
  replace hv := q_aI_e hv
  obtain ⟨_, _, cv11, iv11, yv11⟩ := hv
  replace h := q_be h
  obtain ⟨v12, hv, h⟩ := h
  replace hv := q_fR_e hv
  obtain ⟨_, cv12, dv12⟩ := hv
  replace h := q_be h
  obtain ⟨a13, ea13, h⟩ := h
  subst ea13
  replace h := q_be h
  obtain ⟨v14, hv, h⟩ := h
  replace hv := q_aI_e hv
  obtain ⟨_, _, cv14, iv14, yv14⟩ := hv
  have kT21 : (some (.inr (x4, x5))) = some x → ps_At mX3_findWidest (d + 1) 106 [(0, .ref x0), (1, .int x1), (2, .int x2), (3, .int x3), (4, .int x4), (5, .int x5)] [] g Q := fun h => by
    exact ps_weak (he (x4, x5) (Option.some.inj h).symm) ⟨rfl, rfl, rfl, rfl, rfl, rfl, trivial⟩
  refine ⟨⟨some _, rfl⟩, _, _, cv9, dv9, _, _, cv11, iv11, _, yv11, ⟨some _, rfl⟩, _, _, cv12, dv12, _, _, cv14, iv14, _, yv14, ?_⟩
  refine And.intro (fun hc15 => ?_) (fun hc15 => ?_)
  · exact ps_weak (kT21 (q_ifp (Or.inl hc15) h)) ⟨rfl, rfl, rfl, rfl, rfl, rfl, trivial⟩
  · refine And.intro (fun hc16 => ?_) (fun hc16 => ?_)
    · exact ps_weak (kT21 (q_ifp (Or.inr (hc16)) h)) ⟨rfl, rfl, rfl, rfl, rfl, rfl, trivial⟩
    · replace h := q_ifn (not_or.mpr ⟨hc15, hc16⟩) h
      replace h := q_be h
      obtain ⟨v18, hv, h⟩ := h
      replace hv := q_fR_e hv
      obtain ⟨_, cv18, dv18⟩ := hv
      replace h := q_be h
      obtain ⟨a19, ea19, h⟩ := h
      subst ea19
      replace h := q_be h
      obtain ⟨v20, hv, h⟩ := h
      replace hv := q_aI_e hv
      obtain ⟨_, _, cv20, iv20, yv20⟩ := hv
      refine ⟨⟨some _, rfl⟩, _, _, cv18, dv18, _, _, cv20, iv20, _, yv20, by decide, ?_⟩
      refine rJ9_min_7cf53 rfl ?_
      refine ⟨by decide, ?_⟩
      refine rJ9_max_7cf53 rfl ?_
      refine ⟨by decide, by decide, ?_⟩
      exact ps_weak (hh (fJ9_min_7cf53 x4 ((q_shr v20 x3) &&& (255 : Int32)), fJ9_max_7cf53 x5 ((q_shr v20 x3) &&& (255 : Int32)), x6 + (1 : Int32)) (Option.some.inj h).symm) ⟨rfl, rfl, rfl, rfl, rfl, rfl, rfl, trivial⟩
noncomputable def jX3_findWidest_131_21 (g : ps_G) (x0 : Nat) (x1 : Int32) (x2 : Int32) (x3 : Int32) : Option ((Int32 × Int32 × ps_G) ⊕ (Int32 × ps_G)) := some (.inl (x1, x3 + (-8 : Int32), g))
theorem pjX3_findWidest_131_21 {d : Nat} {Q : ps_Rs → ps_G → Prop} {g : ps_G} {x0 : Nat} {x1 : Int32} {x2 : Int32} {x3 : Int32} {x : (Int32 × Int32 × ps_G) ⊕ (Int32 × ps_G)} (h : jX3_findWidest_131_21 g x0 x1 x2 x3 = some x) (hh : ∀ s' : Int32 × Int32 × ps_G, x = .inl s' → ps_At mX3_findWidest (d + 1) 21 [(0, .ref x0), (1, .int s'.1), (2, .int x2), (3, .int s'.2.1)] [] s'.2.2 Q) (he : ∀ r' : Int32 × ps_G, x = .inr r' → ps_At mX3_findWidest (d + 1) 137 [(0, .ref x0), (1, .int r'.1), (2, .int x2)] [] r'.2 Q) : ps_At mX3_findWidest (d + 1) 131 [(0, .ref x0), (1, .int x1), (2, .int x2), (3, .int x3)] [] g Q := by
  unfold jX3_findWidest_131_21 at h
  refine sX3_findWidest_131 ?_
  refine ⟨by decide, ?_⟩
  exact ps_weak (hh (x1, x3 + (-8 : Int32), g) (Option.some.inj h).symm) ⟨rfl, rfl, rfl, rfl, trivial⟩
noncomputable def jX3_findWidest_106_21 (g : ps_G) (x0 : Nat) (x1 : Int32) (x2 : Int32) (x3 : Int32) (x4 : Int32) (x5 : Int32) : Option ((Int32 × Int32 × ps_G) ⊕ (Int32 × ps_G)) := if (x5 - x4) ≤ x1 then (jX3_findWidest_131_21 g x0 x1 x2 x3) else (Option.bind (q_sI 3 9 g x0 x2) fun g26 => Option.bind (q_sI 3 10 g26 x0 x3) fun g27 => jX3_findWidest_131_21 g27 x0 (x5 - x4) x2 x3)
theorem pjX3_findWidest_106_21 {d : Nat} {Q : ps_Rs → ps_G → Prop} {g : ps_G} {x0 : Nat} {x1 : Int32} {x2 : Int32} {x3 : Int32} {x4 : Int32} {x5 : Int32} {x : (Int32 × Int32 × ps_G) ⊕ (Int32 × ps_G)} (h : jX3_findWidest_106_21 g x0 x1 x2 x3 x4 x5 = some x) (hh : ∀ s' : Int32 × Int32 × ps_G, x = .inl s' → ps_At mX3_findWidest (d + 1) 21 [(0, .ref x0), (1, .int s'.1), (2, .int x2), (3, .int s'.2.1)] [] s'.2.2 Q) (he : ∀ r' : Int32 × ps_G, x = .inr r' → ps_At mX3_findWidest (d + 1) 137 [(0, .ref x0), (1, .int r'.1), (2, .int x2)] [] r'.2 Q) : ps_At mX3_findWidest (d + 1) 106 [(0, .ref x0), (1, .int x1), (2, .int x2), (3, .int x3), (4, .int x4), (5, .int x5)] [] g Q := by
  unfold jX3_findWidest_106_21 at h
  refine sX3_findWidest_106 ?_
  refine And.intro (fun hc24 => ?_) (fun hc24 => ?_)
  · replace h := q_ifp (hc24) h
    exact ps_weak (pjX3_findWidest_131_21 h hh he) ⟨rfl, rfl, rfl, rfl, trivial⟩
  · replace h := q_ifn (hc24) h
    replace h := q_be h
    obtain ⟨g26, hv, h⟩ := h
    replace hv := q_sI_e hv
    obtain ⟨_, cg26, dg26, yg26⟩ := hv
    replace h := q_be h
    obtain ⟨g27, hv, h⟩ := h
    replace hv := q_sI_e hv
    obtain ⟨_, cg27, dg27, yg27⟩ := hv
    refine ⟨by decide, ⟨some _, rfl⟩, _, cg26, dg26, rfl, rfl, _, yg26, ⟨some _, rfl⟩, _, cg27, dg27, rfl, rfl, _, yg27, ?_⟩
    exact ps_weak (pjX3_findWidest_131_21 h hh he) ⟨rfl, rfl, rfl, rfl, trivial⟩
noncomputable def bX3_findWidest_21 (x0 : Nat) (x2 : Int32) (x1 : Int32) (x3 : Int32) (g : ps_G) : Option ((Int32 × Int32 × ps_G) ⊕ (Int32 × ps_G)) := if x3 < 0 then (some (.inr (x1, g))) else (Option.bind (q_fR 3 5 g x0) fun v6 => Option.bind (v6) fun a7 => Option.bind (q_aI g a7 x2) fun v8 => Option.bind (q_lp (fun s => bX3_findWidest_41 g x0 x1 x2 x3 s.1 s.2.1 s.2.2) ((255 : Int32), (0 : Int32), v8)) fun s23 => jX3_findWidest_106_21 g x0 x1 x2 x3 s23.1 s23.2)
theorem pbX3_findWidest_21 {d : Nat} {Q : ps_Rs → ps_G → Prop}  {x0 : Nat} {x2 : Int32} {x1 : Int32} {x3 : Int32} {g : ps_G} {x : (Int32 × Int32 × ps_G) ⊕ (Int32 × ps_G)} (h : bX3_findWidest_21 x0 x2 x1 x3 g = some x) (hh : ∀ s' : Int32 × Int32 × ps_G, x = .inl s' → ps_At mX3_findWidest (d + 1) 21 [(0, .ref x0), (1, .int s'.1), (2, .int x2), (3, .int s'.2.1)] [] s'.2.2 Q) (he : ∀ r' : Int32 × ps_G, x = .inr r' → ps_At mX3_findWidest (d + 1) 137 [(0, .ref x0), (1, .int r'.1), (2, .int x2)] [] r'.2 Q) : ps_At mX3_findWidest (d + 1) 21 [(0, .ref x0), (1, .int x1), (2, .int x2), (3, .int x3)] [] g Q := by
  unfold bX3_findWidest_21 at h
  refine sX3_findWidest_21 ?_
  refine And.intro (fun hc4 => ?_) (fun hc4 => ?_)
  · replace h := q_ifp (hc4) h
    exact ps_weak (he (x1, g) (Option.some.inj h).symm) ⟨rfl, rfl, rfl, trivial⟩
  · replace h := q_ifn (hc4) h
    replace h := q_be h
    obtain ⟨v6, hv, h⟩ := h
    replace hv := q_fR_e hv
    obtain ⟨_, cv6, dv6⟩ := hv
    replace h := q_be h
    obtain ⟨a7, ea7, h⟩ := h
    subst ea7
    replace h := q_be h
    obtain ⟨v8, hv, h⟩ := h
    replace hv := q_aI_e hv
    obtain ⟨_, _, cv8, iv8, yv8⟩ := hv
    refine ⟨by decide, by decide, ⟨some _, rfl⟩, _, _, cv6, dv6, _, _, cv8, iv8, _, yv8, by decide, ?_⟩
    replace h := q_be h
    obtain ⟨s23, hl, h⟩ := h
    refine ps_weak (q_lp_ok hl (fun s => ps_At mX3_findWidest (d + 1) 41 [(0, .ref x0), (1, .int x1), (2, .int x2), (3, .int x3), (4, .int s.1), (5, .int s.2.1), (6, .int s.2.2)] [] g Q) (fun r => ps_At mX3_findWidest (d + 1) 106 [(0, .ref x0), (1, .int x1), (2, .int x2), (3, .int x3), (4, .int r.1), (5, .int r.2)] [] g Q) (fun s x hb hh he => pbX3_findWidest_41 hb hh he) ?_) ⟨rfl, rfl, rfl, rfl, rfl, rfl, rfl, trivial⟩
    refine (?_ : ps_At mX3_findWidest (d + 1) 106 [(0, .ref x0), (1, .int x1), (2, .int x2), (3, .int x3), (4, .int s23.1), (5, .int s23.2)] [] g Q)
    exact ps_weak (pjX3_findWidest_106_21 h hh he) ⟨rfl, rfl, rfl, rfl, rfl, rfl, trivial⟩
noncomputable def bX3_findWidest_4 (x0 : Nat) (x1 : Int32) (x2 : Int32) (g : ps_G) : Option ((Int32 × Int32 × ps_G) ⊕ (Int32 × ps_G)) := Option.bind (q_fI 3 8 g x0) fun v1 => if (v1 ≤ x2) ∨ ((16 : Int32) ≤ x2) then (some (.inr (x1, g))) else (Option.bind (q_lp (fun s => bX3_findWidest_21 x0 x2 s.1 s.2.1 s.2.2) (x1, (16 : Int32), g)) fun s32 => some (.inl (s32.1, x2 + (1 : Int32), s32.2)))
theorem pbX3_findWidest_4 {d : Nat} {Q : ps_Rs → ps_G → Prop}  {x0 : Nat} {x1 : Int32} {x2 : Int32} {g : ps_G} {x : (Int32 × Int32 × ps_G) ⊕ (Int32 × ps_G)} (h : bX3_findWidest_4 x0 x1 x2 g = some x) (hh : ∀ s' : Int32 × Int32 × ps_G, x = .inl s' → ps_At mX3_findWidest (d + 1) 4 [(0, .ref x0), (1, .int s'.1), (2, .int s'.2.1)] [] s'.2.2 Q) (he : ∀ r' : Int32 × ps_G, x = .inr r' → ps_At mX3_findWidest (d + 1) 143 [(1, .int r'.1)] [] r'.2 Q) : ps_At mX3_findWidest (d + 1) 4 [(0, .ref x0), (1, .int x1), (2, .int x2)] [] g Q := by
  unfold bX3_findWidest_4 at h
  refine sX3_findWidest_4 ?_
  replace h := q_be h
  obtain ⟨v1, hv, h⟩ := h
  replace hv := q_fI_e hv
  obtain ⟨_, cv1, dv1⟩ := hv
  have kT33 : (some (.inr (x1, g))) = some x → ps_At mX3_findWidest (d + 1) 143 [(1, .int x1)] [] g Q := fun h => by
    exact ps_weak (he (x1, g) (Option.some.inj h).symm) ⟨rfl, trivial⟩
  refine ⟨⟨some _, rfl⟩, _, _, cv1, dv1, ?_⟩
  refine And.intro (fun hc2 => ?_) (fun hc2 => ?_)
  · exact ps_weak (kT33 (q_ifp (Or.inl hc2) h)) ⟨rfl, trivial⟩
  · refine And.intro (fun hc3 => ?_) (fun hc3 => ?_)
    · exact ps_weak (kT33 (q_ifp (Or.inr (hc3)) h)) ⟨rfl, trivial⟩
    · replace h := q_ifn (not_or.mpr ⟨hc2, hc3⟩) h
      refine ⟨by decide, ?_⟩
      replace h := q_be h
      obtain ⟨s32, hl, h⟩ := h
      refine ps_weak (q_lp_ok hl (fun s => ps_At mX3_findWidest (d + 1) 21 [(0, .ref x0), (1, .int s.1), (2, .int x2), (3, .int s.2.1)] [] s.2.2 Q) (fun r => ps_At mX3_findWidest (d + 1) 137 [(0, .ref x0), (1, .int r.1), (2, .int x2)] [] r.2 Q) (fun s x hb hh he => pbX3_findWidest_21 hb hh he) ?_) ⟨rfl, rfl, rfl, rfl, trivial⟩
      refine (?_ : ps_At mX3_findWidest (d + 1) 137 [(0, .ref x0), (1, .int s32.1), (2, .int x2)] [] s32.2 Q)
      refine sX3_findWidest_137 ?_
      refine ⟨by decide, ?_⟩
      exact ps_weak (hh (s32.1, x2 + (1 : Int32), s32.2) (Option.some.inj h).symm) ⟨rfl, rfl, rfl, trivial⟩
noncomputable def jX3_findWidest_143 (g : ps_G) (x1 : Int32) : Option (Int32 × ps_G) := some ((if x1 ≤ 0 then (0 : Int32) else (1 : Int32)), g)
theorem pjX3_findWidest_143 {d : Nat} {Q : ps_Rs → ps_G → Prop} {g : ps_G} {x1 : Int32} {r : Int32 × ps_G} (h : jX3_findWidest_143 g x1 = some r) (hk : Q (.inl (some (.int r.1))) r.2) : ps_At mX3_findWidest (d + 1) 143 [(1, .int x1)] [] g Q := by
  unfold jX3_findWidest_143 at h
  refine sX3_findWidest_143 ?_
  have kJ38 : ∀ w37 : Int32, w37 = (if x1 ≤ 0 then (0 : Int32) else (1 : Int32)) → ps_At mX3_findWidest (d + 1) 152 [] [.int w37] g Q := by
    rintro _ rfl
    refine sX3_findWidest_152 ?_
    cases h
    exact ⟨rfl, q_ib (Or.inl rfl) (Or.inr rfl), hk⟩
  refine And.intro (fun hc36 => ?_) (fun hc36 => ?_)
  · refine sX3_findWidest_151 ?_
    exact ps_weak (kJ38 _ (if_pos (hc36)).symm) trivial
  · exact ps_weak (kJ38 _ (if_neg (hc36)).symm) trivial
noncomputable def fX3_findWidest (g : ps_G) (x0 : Nat) : Option (Int32 × ps_G) := Option.bind (q_lp (fun s => bX3_findWidest_4 x0 s.1 s.2.1 s.2.2) ((0 : Int32), (0 : Int32), g)) fun s35 => jX3_findWidest_143 s35.2 s35.1
theorem rX3_findWidest {d : Nat} {Q : ps_Rs → ps_G → Prop} {g : ps_G} {x0 : Nat} {r : Int32 × ps_G} (h : fX3_findWidest g x0 = some r) (hk : Q (.inl (some (.int r.1))) r.2) : ps_Ok mX3_findWidest (d + 1) [.ref x0] g Q := by
  unfold fX3_findWidest at h
  refine sX3_findWidest_0 ?_
  refine ⟨by decide, by decide, ?_⟩
  replace h := q_be h
  obtain ⟨s35, hl, h⟩ := h
  refine ps_weak (q_lp_ok hl (fun s => ps_At mX3_findWidest (d + 1) 4 [(0, .ref x0), (1, .int s.1), (2, .int s.2.1)] [] s.2.2 Q) (fun r => ps_At mX3_findWidest (d + 1) 143 [(1, .int r.1)] [] r.2 Q) (fun s x hb hh he => pbX3_findWidest_4 hb hh he) ?_) ⟨rfl, rfl, rfl, trivial⟩
  refine (?_ : ps_At mX3_findWidest (d + 1) 143 [(1, .int s35.1)] [] s35.2 Q)
  exact ps_weak (pjX3_findWidest_143 h hk) ⟨rfl, trivial⟩
noncomputable def jX3_channelAt_27 (g : ps_G) (k0 : Int32) : Option (Int32) := some k0
theorem pjX3_channelAt_27 {d : Nat} {Q : ps_Rs → ps_G → Prop} {g : ps_G} {k0 : Int32} {r : Int32} (h : jX3_channelAt_27 g k0 = some r) (hk : Q (.inl (some (.int r))) g) : ps_At mX3_channelAt d 27 [] [.int k0] g Q := by
  unfold jX3_channelAt_27 at h
  refine sX3_channelAt_27 ?_
  cases h
  exact ⟨rfl, hk⟩
noncomputable def fX3_channelAt (g : ps_G) (x0 : Nat) (x1 : Int32) (x2 : Int32) : Option (Int32) := if ¬ (x1 < 0) ∧ (x1 < (576 : Int32)) then (Option.bind (q_fR 3 4 g x0) fun v4 => Option.bind (v4) fun a5 => Option.bind (q_aI g a5 x1) fun v6 => jX3_channelAt_27 g ((q_shr v6 x2) &&& (255 : Int32))) else (jX3_channelAt_27 g (-1 : Int32))
theorem rX3_channelAt {d : Nat} {Q : ps_Rs → ps_G → Prop} {g : ps_G} {x0 : Nat} {x1 : Int32} {x2 : Int32} {r : Int32} (h : fX3_channelAt g x0 x1 x2 = some r) (hk : Q (.inl (some (.int r))) g) : ps_Ok mX3_channelAt d [.ref x0, .int x1, .int x2] g Q := by
  unfold fX3_channelAt at h
  refine sX3_channelAt_0 ?_
  have kF8 : (jX3_channelAt_27 g (-1 : Int32)) = some r → ps_At mX3_channelAt d 11 [] [] g Q := fun h => by
    refine sX3_channelAt_11 ?_
    exact ps_weak (pjX3_channelAt_27 h hk) trivial
  refine And.intro (fun hc1 => ?_) (fun hc1 => ?_)
  · exact ps_weak (kF8 (q_ifn (fun z => z.1 hc1) h)) trivial
  · refine And.intro (fun hc2 => ?_) (fun hc2 => ?_)
    · replace h := q_ifp (⟨hc1, hc2⟩) h
      refine sX3_channelAt_15 ?_
      replace h := q_be h
      obtain ⟨v4, hv, h⟩ := h
      replace hv := q_fR_e hv
      obtain ⟨_, cv4, dv4⟩ := hv
      replace h := q_be h
      obtain ⟨a5, ea5, h⟩ := h
      subst ea5
      replace h := q_be h
      obtain ⟨v6, hv, h⟩ := h
      replace hv := q_aI_e hv
      obtain ⟨_, _, cv6, iv6, yv6⟩ := hv
      refine ⟨⟨some _, rfl⟩, _, _, cv4, dv4, _, _, cv6, iv6, _, yv6, ?_⟩
      exact ps_weak (pjX3_channelAt_27 h hk) trivial
    · exact ps_weak (kF8 (q_ifn (fun z => hc2 z.2) h)) trivial
noncomputable def jX3_sortShades_90_42 (g : ps_G) (x0 : Nat) (x1 : Int32) (x2 : Int32) (x3 : Int32) (x4 : Int32) (x5 : Int32) (x6 : Int32) (x7 : Int32) : Option ((Int32 × ps_G) ⊕ (Int32 × ps_G)) := Option.bind (q_fR 3 4 g x0) fun v12 => Option.bind (v12) fun a13 => Option.bind (q_fR 3 4 g x0) fun v14 => Option.bind (v14) fun a15 => Option.bind (q_aI g a15 (x7 - (1 : Int32))) fun v16 => Option.bind (q_wI g a13 x7 v16) fun g17 => some (.inl (x7 + (-1 : Int32), g17))
theorem pjX3_sortShades_90_42 {d : Nat} {Q : ps_Rs → ps_G → Prop} {g : ps_G} {x0 : Nat} {x1 : Int32} {x2 : Int32} {x3 : Int32} {x4 : Int32} {x5 : Int32} {x6 : Int32} {x7 : Int32} {x : (Int32 × ps_G) ⊕ (Int32 × ps_G)} (h : jX3_sortShades_90_42 g x0 x1 x2 x3 x4 x5 x6 x7 = some x) (hh : ∀ s' : Int32 × ps_G, x = .inl s' → ps_At mX3_sortShades (d + 1) 42 [(0, .ref x0), (1, .int x1), (2, .int x2), (3, .int x3), (4, .int x4), (5, .int x5), (6, .int x6), (7, .int s'.1)] [] s'.2 Q) (he : ∀ r' : Int32 × ps_G, x = .inr r' → ps_At mX3_sortShades (d + 1) 112 [(0, .ref x0), (1, .int x1), (2, .int x2), (3, .int x3), (4, .int x4), (5, .int x5), (7, .int r'.1)] [] r'.2 Q) : ps_At mX3_sortShades (d + 1) 90 [(0, .ref x0), (1, .int x1), (2, .int x2), (3, .int x3), (4, .int x4), (5, .int x5), (6, .int x6), (7, .int x7)] [] g Q := by
  unfold jX3_sortShades_90_42 at h
  refine sX3_sortShades_90 ?_
  replace h := q_be h
  obtain ⟨v12, hv, h⟩ := h
  replace hv := q_fR_e hv
  obtain ⟨_, cv12, dv12⟩ := hv
  replace h := q_be h
  obtain ⟨a13, ea13, h⟩ := h
  subst ea13
  replace h := q_be h
  obtain ⟨v14, hv, h⟩ := h
  replace hv := q_fR_e hv
  obtain ⟨_, cv14, dv14⟩ := hv
  replace h := q_be h
  obtain ⟨a15, ea15, h⟩ := h
  subst ea15
  replace h := q_be h
  obtain ⟨v16, hv, h⟩ := h
  replace hv := q_aI_e hv
  obtain ⟨_, _, cv16, iv16, yv16⟩ := hv
  replace h := q_be h
  obtain ⟨g17, hv, h⟩ := h
  replace hv := q_wI_e hv
  obtain ⟨_, _, cg17, pg17, ig17, yg17⟩ := hv
  refine ⟨⟨some _, rfl⟩, _, _, cv12, dv12, ⟨some _, rfl⟩, _, _, cv14, dv14, _, _, cv16, iv16, _, yv16, _, _, cg17, pg17, ig17, _, yg17, by decide, ?_⟩
  exact ps_weak (hh (x7 + (-1 : Int32), g17) (Option.some.inj h).symm) ⟨rfl, rfl, rfl, rfl, rfl, rfl, rfl, rfl, trivial⟩
noncomputable def bX3_sortShades_42 (x0 : Nat) (x1 : Int32) (x2 : Int32) (x3 : Int32) (x4 : Int32) (x5 : Int32) (x6 : Int32) (x7 : Int32) (g : ps_G) : Option ((Int32 × ps_G) ⊕ (Int32 × ps_G)) := if x7 ≤ x1 then (some (.inr (x7, g))) else (Option.bind (q_ob 3 g x0) fun u9 => Option.bind (fX3_channelAt g x0 (x7 - (1 : Int32)) x3) fun v10 => if x6 < v10 then (jX3_sortShades_90_42 g x0 x1 x2 x3 x4 x5 x6 x7) else (Option.bind (q_ob 3 g x0) fun u18 => Option.bind (fX3_channelAt g x0 (x7 - (1 : Int32)) x3) fun v19 => if ¬ v19 = x6 then (some (.inr (x7, g))) else (Option.bind (q_fR 3 4 g x0) fun v22 => Option.bind (v22) fun a23 => Option.bind (q_aI g a23 (x7 - (1 : Int32))) fun v24 => if v24 ≤ x5 then (some (.inr (x7, g))) else (jX3_sortShades_90_42 g x0 x1 x2 x3 x4 x5 x6 x7))))
theorem pbX3_sortShades_42 {d : Nat} {Q : ps_Rs → ps_G → Prop}  {x0 : Nat} {x1 : Int32} {x2 : Int32} {x3 : Int32} {x4 : Int32} {x5 : Int32} {x6 : Int32} {x7 : Int32} {g : ps_G} {x : (Int32 × ps_G) ⊕ (Int32 × ps_G)} (h : bX3_sortShades_42 x0 x1 x2 x3 x4 x5 x6 x7 g = some x) (hh : ∀ s' : Int32 × ps_G, x = .inl s' → ps_At mX3_sortShades (d + 1) 42 [(0, .ref x0), (1, .int x1), (2, .int x2), (3, .int x3), (4, .int x4), (5, .int x5), (6, .int x6), (7, .int s'.1)] [] s'.2 Q) (he : ∀ r' : Int32 × ps_G, x = .inr r' → ps_At mX3_sortShades (d + 1) 112 [(0, .ref x0), (1, .int x1), (2, .int x2), (3, .int x3), (4, .int x4), (5, .int x5), (7, .int r'.1)] [] r'.2 Q) : ps_At mX3_sortShades (d + 1) 42 [(0, .ref x0), (1, .int x1), (2, .int x2), (3, .int x3), (4, .int x4), (5, .int x5), (6, .int x6), (7, .int x7)] [] g Q := by
  unfold bX3_sortShades_42 at h
  refine sX3_sortShades_42 ?_
  refine And.intro (fun hc7 => ?_) (fun hc7 => ?_)
  · replace h := q_ifp (hc7) h
    exact ps_weak (he (x7, g) (Option.some.inj h).symm) ⟨rfl, rfl, rfl, rfl, rfl, rfl, rfl, trivial⟩
  · replace h := q_ifn (hc7) h
    replace h := q_be h
    obtain ⟨u9, hv, h⟩ := h
    replace hv := q_ob_e hv
    obtain ⟨_, cu9⟩ := hv
    replace h := q_be h
    obtain ⟨v10, hv, h⟩ := h
    refine ⟨⟨some _, rfl⟩, ⟨_, cu9⟩, ?_⟩
    refine rX3_channelAt hv ?_
    refine And.intro (fun hc11 => ?_) (fun hc11 => ?_)
    · replace h := q_ifp (hc11) h
      exact ps_weak (pjX3_sortShades_90_42 h hh he) ⟨rfl, rfl, rfl, rfl, rfl, rfl, rfl, rfl, trivial⟩
    · replace h := q_ifn (hc11) h
      replace h := q_be h
      obtain ⟨u18, hv, h⟩ := h
      replace hv := q_ob_e hv
      obtain ⟨_, cu18⟩ := hv
      replace h := q_be h
      obtain ⟨v19, hv, h⟩ := h
      refine ⟨⟨some _, rfl⟩, ⟨_, cu18⟩, ?_⟩
      refine rX3_channelAt hv ?_
      refine And.intro (fun hc20 => ?_) (fun hc20 => ?_)
      · replace h := q_ifp (hc20) h
        exact ps_weak (he (x7, g) (Option.some.inj h).symm) ⟨rfl, rfl, rfl, rfl, rfl, rfl, rfl, trivial⟩
      · replace h := q_ifn (hc20) h
        replace h := q_be h
        obtain ⟨v22, hv, h⟩ := h
        replace hv := q_fR_e hv
        obtain ⟨_, cv22, dv22⟩ := hv
        replace h := q_be h
        obtain ⟨a23, ea23, h⟩ := h
        subst ea23
        replace h := q_be h
        obtain ⟨v24, hv, h⟩ := h
        replace hv := q_aI_e hv
        obtain ⟨_, _, cv24, iv24, yv24⟩ := hv
        refine ⟨⟨some _, rfl⟩, _, _, cv22, dv22, _, _, cv24, iv24, _, yv24, ?_⟩
        refine And.intro (fun hc25 => ?_) (fun hc25 => ?_)
        · replace h := q_ifp (hc25) h
          exact ps_weak (he (x7, g) (Option.some.inj h).symm) ⟨rfl, rfl, rfl, rfl, rfl, rfl, rfl, trivial⟩
        · replace h := q_ifn (hc25) h
          exact ps_weak (pjX3_sortShades_90_42 h hh he) ⟨rfl, rfl, rfl, rfl, rfl, rfl, rfl, rfl, trivial⟩
noncomputable def jX3_sortShades_112_5 (g : ps_G) (x0 : Nat) (x1 : Int32) (x2 : Int32) (x3 : Int32) (x4 : Int32) (x5 : Int32) (x7 : Int32) : Option ((Int32 × ps_G) ⊕ (ps_G)) := Option.bind (q_fR 3 4 g x0) fun v35 => Option.bind (v35) fun a36 => Option.bind (q_wI g a36 x7 x5) fun g37 => some (.inl (x4 + (1 : Int32), g37))
theorem pjX3_sortShades_112_5 {d : Nat} {Q : ps_Rs → ps_G → Prop} {g : ps_G} {x0 : Nat} {x1 : Int32} {x2 : Int32} {x3 : Int32} {x4 : Int32} {x5 : Int32} {x7 : Int32} {x : (Int32 × ps_G) ⊕ (ps_G)} (h : jX3_sortShades_112_5 g x0 x1 x2 x3 x4 x5 x7 = some x) (hh : ∀ s' : Int32 × ps_G, x = .inl s' → ps_At mX3_sortShades (d + 1) 5 [(0, .ref x0), (1, .int x1), (2, .int x2), (3, .int x3), (4, .int s'.1)] [] s'.2 Q) (he : ∀ r' : ps_G, x = .inr r' → ps_At mX3_sortShades (d + 1) 127 [] [] r' Q) : ps_At mX3_sortShades (d + 1) 112 [(0, .ref x0), (1, .int x1), (2, .int x2), (3, .int x3), (4, .int x4), (5, .int x5), (7, .int x7)] [] g Q := by
  unfold jX3_sortShades_112_5 at h
  refine sX3_sortShades_112 ?_
  replace h := q_be h
  obtain ⟨v35, hv, h⟩ := h
  replace hv := q_fR_e hv
  obtain ⟨_, cv35, dv35⟩ := hv
  replace h := q_be h
  obtain ⟨a36, ea36, h⟩ := h
  subst ea36
  replace h := q_be h
  obtain ⟨g37, hv, h⟩ := h
  replace hv := q_wI_e hv
  obtain ⟨_, _, cg37, pg37, ig37, yg37⟩ := hv
  refine ⟨⟨some _, rfl⟩, _, _, cv35, dv35, _, _, cg37, pg37, ig37, _, yg37, by decide, ?_⟩
  exact ps_weak (hh (x4 + (1 : Int32), g37) (Option.some.inj h).symm) ⟨rfl, rfl, rfl, rfl, rfl, trivial⟩
noncomputable def bX3_sortShades_5 (x0 : Nat) (x1 : Int32) (x2 : Int32) (x3 : Int32) (x4 : Int32) (g : ps_G) : Option ((Int32 × ps_G) ⊕ (ps_G)) := if (x2 ≤ x4) ∨ ((576 : Int32) ≤ x4) then (some (.inr g)) else (Option.bind (q_fR 3 4 g x0) fun v4 => Option.bind (v4) fun a5 => Option.bind (q_aI g a5 x4) fun v6 => Option.bind (q_lp (fun s => bX3_sortShades_42 x0 x1 x2 x3 x4 v6 ((q_shr v6 x3) &&& (255 : Int32)) s.1 s.2) (x4, g)) fun s34 => jX3_sortShades_112_5 s34.2 x0 x1 x2 x3 x4 v6 s34.1)
theorem pbX3_sortShades_5 {d : Nat} {Q : ps_Rs → ps_G → Prop}  {x0 : Nat} {x1 : Int32} {x2 : Int32} {x3 : Int32} {x4 : Int32} {g : ps_G} {x : (Int32 × ps_G) ⊕ (ps_G)} (h : bX3_sortShades_5 x0 x1 x2 x3 x4 g = some x) (hh : ∀ s' : Int32 × ps_G, x = .inl s' → ps_At mX3_sortShades (d + 1) 5 [(0, .ref x0), (1, .int x1), (2, .int x2), (3, .int x3), (4, .int s'.1)] [] s'.2 Q) (he : ∀ r' : ps_G, x = .inr r' → ps_At mX3_sortShades (d + 1) 127 [] [] r' Q) : ps_At mX3_sortShades (d + 1) 5 [(0, .ref x0), (1, .int x1), (2, .int x2), (3, .int x3), (4, .int x4)] [] g Q := by
  unfold bX3_sortShades_5 at h
  refine sX3_sortShades_5 ?_
  have kT38 : (some (.inr g)) = some x → ps_At mX3_sortShades (d + 1) 127 [] [] g Q := fun h => by
    exact ps_weak (he g (Option.some.inj h).symm) trivial
  refine And.intro (fun hc1 => ?_) (fun hc1 => ?_)
  · exact ps_weak (kT38 (q_ifp (Or.inl hc1) h)) trivial
  · refine And.intro (fun hc2 => ?_) (fun hc2 => ?_)
    · exact ps_weak (kT38 (q_ifp (Or.inr (hc2)) h)) trivial
    · replace h := q_ifn (not_or.mpr ⟨hc1, hc2⟩) h
      replace h := q_be h
      obtain ⟨v4, hv, h⟩ := h
      replace hv := q_fR_e hv
      obtain ⟨_, cv4, dv4⟩ := hv
      replace h := q_be h
      obtain ⟨a5, ea5, h⟩ := h
      subst ea5
      replace h := q_be h
      obtain ⟨v6, hv, h⟩ := h
      replace hv := q_aI_e hv
      obtain ⟨_, _, cv6, iv6, yv6⟩ := hv
      refine ⟨⟨some _, rfl⟩, _, _, cv4, dv4, _, _, cv6, iv6, _, yv6, by decide, by decide, by decide, ?_⟩
      replace h := q_be h
      obtain ⟨s34, hl, h⟩ := h
      refine ps_weak (q_lp_ok hl (fun s => ps_At mX3_sortShades (d + 1) 42 [(0, .ref x0), (1, .int x1), (2, .int x2), (3, .int x3), (4, .int x4), (5, .int v6), (6, .int ((q_shr v6 x3) &&& (255 : Int32))), (7, .int s.1)] [] s.2 Q) (fun r => ps_At mX3_sortShades (d + 1) 112 [(0, .ref x0), (1, .int x1), (2, .int x2), (3, .int x3), (4, .int x4), (5, .int v6), (7, .int r.1)] [] r.2 Q) (fun s x hb hh he => pbX3_sortShades_42 hb hh he) ?_) ⟨rfl, rfl, rfl, rfl, rfl, rfl, rfl, rfl, trivial⟩
      refine (?_ : ps_At mX3_sortShades (d + 1) 112 [(0, .ref x0), (1, .int x1), (2, .int x2), (3, .int x3), (4, .int x4), (5, .int v6), (7, .int s34.1)] [] s34.2 Q)
      exact ps_weak (pjX3_sortShades_112_5 h hh he) ⟨rfl, rfl, rfl, rfl, rfl, rfl, rfl, trivial⟩
noncomputable def jX3_sortShades_127 (g : ps_G) : Option (ps_G) := some g
theorem pjX3_sortShades_127 {d : Nat} {Q : ps_Rs → ps_G → Prop} {g : ps_G}  {r : ps_G} (h : jX3_sortShades_127 g = some r) (hk : Q (.inl none) r) : ps_At mX3_sortShades (d + 1) 127 [] [] g Q := by
  unfold jX3_sortShades_127 at h
  refine sX3_sortShades_127 ?_
  cases h
  exact ⟨rfl, rfl, hk⟩
noncomputable def fX3_sortShades (g : ps_G) (x0 : Nat) (x1 : Int32) (x2 : Int32) (x3 : Int32) : Option (ps_G) := Option.bind (q_lp (fun s => bX3_sortShades_5 x0 x1 x2 x3 s.1 s.2) (x1 + (1 : Int32), g)) fun s40 => jX3_sortShades_127 s40
theorem rX3_sortShades {d : Nat} {Q : ps_Rs → ps_G → Prop} {g : ps_G} {x0 : Nat} {x1 : Int32} {x2 : Int32} {x3 : Int32} {r : ps_G} (h : fX3_sortShades g x0 x1 x2 x3 = some r) (hk : Q (.inl none) r) : ps_Ok mX3_sortShades (d + 1) [.ref x0, .int x1, .int x2, .int x3] g Q := by
  unfold fX3_sortShades at h
  refine sX3_sortShades_0 ?_
  refine ⟨by decide, ?_⟩
  replace h := q_be h
  obtain ⟨s40, hl, h⟩ := h
  refine ps_weak (q_lp_ok hl (fun s => ps_At mX3_sortShades (d + 1) 5 [(0, .ref x0), (1, .int x1), (2, .int x2), (3, .int x3), (4, .int s.1)] [] s.2 Q) (fun r => ps_At mX3_sortShades (d + 1) 127 [] [] r Q) (fun s x hb hh he => pbX3_sortShades_5 hb hh he) ?_) ⟨rfl, rfl, rfl, rfl, rfl, trivial⟩
  refine (?_ : ps_At mX3_sortShades (d + 1) 127 [] [] s40 Q)
  exact ps_weak (pjX3_sortShades_127 h hk) trivial
noncomputable def bX3_cut_37 (g : ps_G) (x0 : Nat) (x1 : Int32) (x2 : Int32) (x3 : Int32) (x4 : Int32) (x5 : Int32) : Option ((Int32) ⊕ (Int32)) := if x4 ≤ x5 then (some (.inr x5)) else (Option.bind (q_ob 3 g x0) fun u14 => Option.bind (fX3_channelAt g x0 x5 x2) fun v15 => Option.bind (q_ob 3 g x0) fun u16 => Option.bind (fX3_channelAt g x0 (x5 - (1 : Int32)) x2) fun v17 => if ¬ v15 = v17 then (some (.inr x5)) else (some (.inl (x5 + (1 : Int32)))))
theorem pbX3_cut_37 {d : Nat} {Q : ps_Rs → ps_G → Prop} {g : ps_G} {x0 : Nat} {x1 : Int32} {x2 : Int32} {x3 : Int32} {x4 : Int32} {x5 : Int32} {x : (Int32) ⊕ (Int32)} (h : bX3_cut_37 g x0 x1 x2 x3 x4 x5 = some x) (hh : ∀ s' : Int32, x = .inl s' → ps_At mX3_cut (d + 2) 37 [(0, .ref x0), (1, .int x1), (2, .int x2), (3, .int x3), (4, .int x4), (5, .int s')] [] g Q) (he : ∀ r' : Int32, x = .inr r' → ps_At mX3_cut (d + 2) 69 [(0, .ref x0), (1, .int x1), (2, .int x2), (3, .int x3), (4, .int x4), (5, .int r')] [] g Q) : ps_At mX3_cut (d + 2) 37 [(0, .ref x0), (1, .int x1), (2, .int x2), (3, .int x3), (4, .int x4), (5, .int x5)] [] g Q := by
  unfold bX3_cut_37 at h
  refine sX3_cut_37 ?_
  refine And.intro (fun hc12 => ?_) (fun hc12 => ?_)
  · replace h := q_ifp (hc12) h
    exact ps_weak (he x5 (Option.some.inj h).symm) ⟨rfl, rfl, rfl, rfl, rfl, rfl, trivial⟩
  · replace h := q_ifn (hc12) h
    replace h := q_be h
    obtain ⟨u14, hv, h⟩ := h
    replace hv := q_ob_e hv
    obtain ⟨_, cu14⟩ := hv
    replace h := q_be h
    obtain ⟨v15, hv, h⟩ := h
    refine ⟨⟨some _, rfl⟩, ⟨_, cu14⟩, ?_⟩
    refine rX3_channelAt hv ?_
    replace h := q_be h
    obtain ⟨u16, hv, h⟩ := h
    replace hv := q_ob_e hv
    obtain ⟨_, cu16⟩ := hv
    replace h := q_be h
    obtain ⟨v17, hv, h⟩ := h
    refine ⟨⟨some _, rfl⟩, ⟨_, cu16⟩, ?_⟩
    refine rX3_channelAt hv ?_
    refine And.intro (fun hc18 => ?_) (fun hc18 => ?_)
    · replace h := q_ifp (hc18) h
      exact ps_weak (he x5 (Option.some.inj h).symm) ⟨rfl, rfl, rfl, rfl, rfl, rfl, trivial⟩
    · replace h := q_ifn (hc18) h
      refine ⟨by decide, ?_⟩
      exact ps_weak (hh (x5 + (1 : Int32)) (Option.some.inj h).symm) ⟨rfl, rfl, rfl, rfl, rfl, rfl, trivial⟩
noncomputable def jX3_cut_115 (g : ps_G) (x0 : Nat) (x1 : Int32) (x3 : Int32) (x4 : Int32) (x5 : Int32) : Option (ps_G) := Option.bind (q_fR 3 5 g x0) fun v25 => Option.bind (v25) fun a26 => Option.bind (q_fI 3 8 g x0) fun v27 => Option.bind (q_wI g a26 v27 x5) fun g28 => Option.bind (q_fR 3 6 g28 x0) fun v29 => Option.bind (v29) fun a30 => Option.bind (q_fI 3 8 g28 x0) fun v31 => Option.bind (q_wI g28 a30 v31 (x4 - x5)) fun g32 => Option.bind (q_fR 3 6 g32 x0) fun v33 => Option.bind (v33) fun a34 => Option.bind (q_wI g32 a34 x1 (x5 - x3)) fun g35 => Option.bind (q_fI 3 8 g35 x0) fun v36 => Option.bind (q_sI 3 8 g35 x0 (v36 + (1 : Int32))) fun g37 => some g37
theorem pjX3_cut_115 {d : Nat} {Q : ps_Rs → ps_G → Prop} {g : ps_G} {x0 : Nat} {x1 : Int32} {x3 : Int32} {x4 : Int32} {x5 : Int32} {r : ps_G} (h : jX3_cut_115 g x0 x1 x3 x4 x5 = some r) (hk : Q (.inl none) r) : ps_At mX3_cut (d + 2) 115 [(0, .ref x0), (1, .int x1), (3, .int x3), (4, .int x4), (5, .int x5)] [] g Q := by
  unfold jX3_cut_115 at h
  refine sX3_cut_115 ?_
  replace h := q_be h
  obtain ⟨v25, hv, h⟩ := h
  replace hv := q_fR_e hv
  obtain ⟨_, cv25, dv25⟩ := hv
  replace h := q_be h
  obtain ⟨a26, ea26, h⟩ := h
  subst ea26
  replace h := q_be h
  obtain ⟨v27, hv, h⟩ := h
  replace hv := q_fI_e hv
  obtain ⟨_, cv27, dv27⟩ := hv
  replace h := q_be h
  obtain ⟨g28, hv, h⟩ := h
  replace hv := q_wI_e hv
  obtain ⟨_, _, cg28, pg28, ig28, yg28⟩ := hv
  replace h := q_be h
  obtain ⟨v29, hv, h⟩ := h
  replace hv := q_fR_e hv
  obtain ⟨_, cv29, dv29⟩ := hv
  replace h := q_be h
  obtain ⟨a30, ea30, h⟩ := h
  subst ea30
  replace h := q_be h
  obtain ⟨v31, hv, h⟩ := h
  replace hv := q_fI_e hv
  obtain ⟨_, cv31, dv31⟩ := hv
  replace h := q_be h
  obtain ⟨g32, hv, h⟩ := h
  replace hv := q_wI_e hv
  obtain ⟨_, _, cg32, pg32, ig32, yg32⟩ := hv
  replace h := q_be h
  obtain ⟨v33, hv, h⟩ := h
  replace hv := q_fR_e hv
  obtain ⟨_, cv33, dv33⟩ := hv
  replace h := q_be h
  obtain ⟨a34, ea34, h⟩ := h
  subst ea34
  replace h := q_be h
  obtain ⟨g35, hv, h⟩ := h
  replace hv := q_wI_e hv
  obtain ⟨_, _, cg35, pg35, ig35, yg35⟩ := hv
  refine ⟨⟨some _, rfl⟩, _, _, cv25, dv25, ⟨some _, rfl⟩, _, _, cv27, dv27, _, _, cg28, pg28, ig28, _, yg28, ⟨some _, rfl⟩, _, _, cv29, dv29, ⟨some _, rfl⟩, _, _, cv31, dv31, _, _, cg32, pg32, ig32, _, yg32, ⟨some _, rfl⟩, _, _, cv33, dv33, _, _, cg35, pg35, ig35, _, yg35, ?_⟩
  replace h := q_be h
  obtain ⟨v36, hv, h⟩ := h
  replace hv := q_fI_e hv
  obtain ⟨_, cv36, dv36⟩ := hv
  replace h := q_be h
  obtain ⟨g37, hv, h⟩ := h
  replace hv := q_sI_e hv
  obtain ⟨_, cg37, dg37, yg37⟩ := hv
  cases h
  exact ⟨⟨some _, rfl⟩, rfl, _, _, cv36, dv36, _, cg37, dg37, rfl, rfl, _, yg37, rfl, rfl, hk⟩
noncomputable def bX3_cut_82 (g : ps_G) (x0 : Nat) (x1 : Int32) (x2 : Int32) (x3 : Int32) (x4 : Int32) (x5 : Int32) : Option ((Int32) ⊕ (Int32)) := if x5 ≤ x3 then (some (.inr x5)) else (Option.bind (q_ob 3 g x0) fun u40 => Option.bind (fX3_channelAt g x0 (x5 - (1 : Int32)) x2) fun v41 => Option.bind (q_ob 3 g x0) fun u42 => Option.bind (fX3_channelAt g x0 (x4 - (1 : Int32)) x2) fun v43 => if ¬ v41 = v43 then (some (.inr x5)) else (some (.inl (x5 + (-1 : Int32)))))
theorem pbX3_cut_82 {d : Nat} {Q : ps_Rs → ps_G → Prop} {g : ps_G} {x0 : Nat} {x1 : Int32} {x2 : Int32} {x3 : Int32} {x4 : Int32} {x5 : Int32} {x : (Int32) ⊕ (Int32)} (h : bX3_cut_82 g x0 x1 x2 x3 x4 x5 = some x) (hh : ∀ s' : Int32, x = .inl s' → ps_At mX3_cut (d + 2) 82 [(0, .ref x0), (1, .int x1), (2, .int x2), (3, .int x3), (4, .int x4), (5, .int s')] [] g Q) (he : ∀ r' : Int32, x = .inr r' → ps_At mX3_cut (d + 2) 115 [(0, .ref x0), (1, .int x1), (3, .int x3), (4, .int x4), (5, .int r')] [] g Q) : ps_At mX3_cut (d + 2) 82 [(0, .ref x0), (1, .int x1), (2, .int x2), (3, .int x3), (4, .int x4), (5, .int x5)] [] g Q := by
  unfold bX3_cut_82 at h
  refine sX3_cut_82 ?_
  refine And.intro (fun hc38 => ?_) (fun hc38 => ?_)
  · replace h := q_ifp (hc38) h
    exact ps_weak (he x5 (Option.some.inj h).symm) ⟨rfl, rfl, rfl, rfl, rfl, trivial⟩
  · replace h := q_ifn (hc38) h
    replace h := q_be h
    obtain ⟨u40, hv, h⟩ := h
    replace hv := q_ob_e hv
    obtain ⟨_, cu40⟩ := hv
    replace h := q_be h
    obtain ⟨v41, hv, h⟩ := h
    refine ⟨⟨some _, rfl⟩, ⟨_, cu40⟩, ?_⟩
    refine rX3_channelAt hv ?_
    replace h := q_be h
    obtain ⟨u42, hv, h⟩ := h
    replace hv := q_ob_e hv
    obtain ⟨_, cu42⟩ := hv
    replace h := q_be h
    obtain ⟨v43, hv, h⟩ := h
    refine ⟨⟨some _, rfl⟩, ⟨_, cu42⟩, ?_⟩
    refine rX3_channelAt hv ?_
    refine And.intro (fun hc44 => ?_) (fun hc44 => ?_)
    · replace h := q_ifp (hc44) h
      exact ps_weak (he x5 (Option.some.inj h).symm) ⟨rfl, rfl, rfl, rfl, rfl, trivial⟩
    · replace h := q_ifn (hc44) h
      refine ⟨by decide, ?_⟩
      exact ps_weak (hh (x5 + (-1 : Int32)) (Option.some.inj h).symm) ⟨rfl, rfl, rfl, rfl, rfl, rfl, trivial⟩
noncomputable def jX3_cut_69 (g : ps_G) (x0 : Nat) (x1 : Int32) (x2 : Int32) (x3 : Int32) (x4 : Int32) (x5 : Int32) : Option (ps_G) := if x5 < x4 then (jX3_cut_115 g x0 x1 x3 x4 x5) else (Option.bind (q_lp (fun s => bX3_cut_82 g x0 x1 x2 x3 x4 s) (x4 - (1 : Int32))) fun s49 => jX3_cut_115 g x0 x1 x3 x4 s49)
theorem pjX3_cut_69 {d : Nat} {Q : ps_Rs → ps_G → Prop} {g : ps_G} {x0 : Nat} {x1 : Int32} {x2 : Int32} {x3 : Int32} {x4 : Int32} {x5 : Int32} {r : ps_G} (h : jX3_cut_69 g x0 x1 x2 x3 x4 x5 = some r) (hk : Q (.inl none) r) : ps_At mX3_cut (d + 2) 69 [(0, .ref x0), (1, .int x1), (2, .int x2), (3, .int x3), (4, .int x4), (5, .int x5)] [] g Q := by
  unfold jX3_cut_69 at h
  refine sX3_cut_69 ?_
  refine And.intro (fun hc24 => ?_) (fun hc24 => ?_)
  · replace h := q_ifp (hc24) h
    exact ps_weak (pjX3_cut_115 h hk) ⟨rfl, rfl, rfl, rfl, rfl, trivial⟩
  · replace h := q_ifn (hc24) h
    refine ⟨by decide, ?_⟩
    replace h := q_be h
    obtain ⟨s49, hl, h⟩ := h
    refine ps_weak (q_lp_ok hl (fun s => ps_At mX3_cut (d + 2) 82 [(0, .ref x0), (1, .int x1), (2, .int x2), (3, .int x3), (4, .int x4), (5, .int s)] [] g Q) (fun r => ps_At mX3_cut (d + 2) 115 [(0, .ref x0), (1, .int x1), (3, .int x3), (4, .int x4), (5, .int r)] [] g Q) (fun s x hb hh he => pbX3_cut_82 hb hh he) ?_) ⟨rfl, rfl, rfl, rfl, rfl, rfl, trivial⟩
    refine (?_ : ps_At mX3_cut (d + 2) 115 [(0, .ref x0), (1, .int x1), (3, .int x3), (4, .int x4), (5, .int s49)] [] g Q)
    exact ps_weak (pjX3_cut_115 h hk) ⟨rfl, rfl, rfl, rfl, rfl, trivial⟩
noncomputable def fX3_cut (g : ps_G) (x0 : Nat) (x1 : Int32) (x2 : Int32) : Option (ps_G) := Option.bind (q_fR 3 5 g x0) fun v1 => Option.bind (v1) fun a2 => Option.bind (q_aI g a2 x1) fun v3 => Option.bind (q_fR 3 6 g x0) fun v4 => Option.bind (v4) fun a5 => Option.bind (q_aI g a5 x1) fun v6 => Option.bind (q_ob 3 g x0) fun u7 => Option.bind (fX3_sortShades g x0 v3 (v3 + v6) x2) fun v8 => Option.bind (q_fR 3 6 v8 x0) fun v9 => Option.bind (v9) fun a10 => Option.bind (q_aI v8 a10 x1) fun v11 => Option.bind (q_lp (fun s => bX3_cut_37 v8 x0 x1 x2 v3 (v3 + v6) s) (v3 + (v11 / (2 : Int32)))) fun s23 => jX3_cut_69 v8 x0 x1 x2 v3 (v3 + v6) s23
theorem rX3_cut {d : Nat} {Q : ps_Rs → ps_G → Prop} {g : ps_G} {x0 : Nat} {x1 : Int32} {x2 : Int32} {r : ps_G} (h : fX3_cut g x0 x1 x2 = some r) (hk : Q (.inl none) r) : ps_Ok mX3_cut (d + 2) [.ref x0, .int x1, .int x2] g Q := by
  unfold fX3_cut at h
  refine sX3_cut_0 ?_
  replace h := q_be h
  obtain ⟨v1, hv, h⟩ := h
  replace hv := q_fR_e hv
  obtain ⟨_, cv1, dv1⟩ := hv
  replace h := q_be h
  obtain ⟨a2, ea2, h⟩ := h
  subst ea2
  replace h := q_be h
  obtain ⟨v3, hv, h⟩ := h
  replace hv := q_aI_e hv
  obtain ⟨_, _, cv3, iv3, yv3⟩ := hv
  replace h := q_be h
  obtain ⟨v4, hv, h⟩ := h
  replace hv := q_fR_e hv
  obtain ⟨_, cv4, dv4⟩ := hv
  replace h := q_be h
  obtain ⟨a5, ea5, h⟩ := h
  subst ea5
  replace h := q_be h
  obtain ⟨v6, hv, h⟩ := h
  replace hv := q_aI_e hv
  obtain ⟨_, _, cv6, iv6, yv6⟩ := hv
  replace h := q_be h
  obtain ⟨u7, hv, h⟩ := h
  replace hv := q_ob_e hv
  obtain ⟨_, cu7⟩ := hv
  replace h := q_be h
  obtain ⟨v8, hv, h⟩ := h
  refine ⟨⟨some _, rfl⟩, _, _, cv1, dv1, _, _, cv3, iv3, _, yv3, by decide, ⟨some _, rfl⟩, _, _, cv4, dv4, _, _, cv6, iv6, _, yv6, by decide, ⟨some _, rfl⟩, ⟨_, cu7⟩, ?_⟩
  refine rX3_sortShades hv ?_
  replace h := q_be h
  obtain ⟨v9, hv, h⟩ := h
  replace hv := q_fR_e hv
  obtain ⟨_, cv9, dv9⟩ := hv
  replace h := q_be h
  obtain ⟨a10, ea10, h⟩ := h
  subst ea10
  replace h := q_be h
  obtain ⟨v11, hv, h⟩ := h
  replace hv := q_aI_e hv
  obtain ⟨_, _, cv11, iv11, yv11⟩ := hv
  refine ⟨⟨some _, rfl⟩, _, _, cv9, dv9, _, _, cv11, iv11, _, yv11, by decide, _, rfl, by decide, ?_⟩
  replace h := q_be h
  obtain ⟨s23, hl, h⟩ := h
  refine ps_weak (q_lp_ok hl (fun s => ps_At mX3_cut (d + 2) 37 [(0, .ref x0), (1, .int x1), (2, .int x2), (3, .int v3), (4, .int (v3 + v6)), (5, .int s)] [] v8 Q) (fun r => ps_At mX3_cut (d + 2) 69 [(0, .ref x0), (1, .int x1), (2, .int x2), (3, .int v3), (4, .int (v3 + v6)), (5, .int r)] [] v8 Q) (fun s x hb hh he => pbX3_cut_37 hb hh he) ?_) ⟨rfl, rfl, rfl, rfl, rfl, rfl, trivial⟩
  refine (?_ : ps_At mX3_cut (d + 2) 69 [(0, .ref x0), (1, .int x1), (2, .int x2), (3, .int v3), (4, .int (v3 + v6)), (5, .int s23)] [] v8 Q)
  exact ps_weak (pjX3_cut_69 h hk) ⟨rfl, rfl, rfl, rfl, rfl, rfl, trivial⟩
noncomputable def bX3_meanOf_18 (g : ps_G) (x0 : Nat) (x1 : Int32) (x2 : Int32) (x3 : Int32) (x4 : Int32) (x5 : Int32) : Option ((Int32 × Int32) ⊕ (Int32)) := Option.bind (q_fR 3 5 g x0) fun v7 => Option.bind (v7) fun a8 => Option.bind (q_aI g a8 x1) fun v9 => if ((v9 + x3) ≤ x5) ∨ ((576 : Int32) ≤ x5) then (some (.inr x4)) else (Option.bind (q_fR 3 4 g x0) fun v13 => Option.bind (v13) fun a14 => Option.bind (q_aI g a14 x5) fun v15 => some (.inl (x4 + ((q_shr v15 x2) &&& (255 : Int32)), x5 + (1 : Int32))))
theorem pbX3_meanOf_18 {d : Nat} {Q : ps_Rs → ps_G → Prop} {g : ps_G} {x0 : Nat} {x1 : Int32} {x2 : Int32} {x3 : Int32} {x4 : Int32} {x5 : Int32} {x : (Int32 × Int32) ⊕ (Int32)} (h : bX3_meanOf_18 g x0 x1 x2 x3 x4 x5 = some x) (hh : ∀ s' : Int32 × Int32, x = .inl s' → ps_At mX3_meanOf d 18 [(0, .ref x0), (1, .int x1), (2, .int x2), (3, .int x3), (4, .int s'.1), (5, .int s'.2)] [] g Q) (he : ∀ r' : Int32, x = .inr r' → ps_At mX3_meanOf d 63 [(3, .int x3), (4, .int r')] [] g Q) : ps_At mX3_meanOf d 18 [(0, .ref x0), (1, .int x1), (2, .int x2), (3, .int x3), (4, .int x4), (5, .int x5)] [] g Q := by
  unfold bX3_meanOf_18 at h
  refine sX3_meanOf_18 ?_
  replace h := q_be h
  obtain ⟨v7, hv, h⟩ := h
  replace hv := q_fR_e hv
  obtain ⟨_, cv7, dv7⟩ := hv
  replace h := q_be h
  obtain ⟨a8, ea8, h⟩ := h
  subst ea8
  replace h := q_be h
  obtain ⟨v9, hv, h⟩ := h
  replace hv := q_aI_e hv
  obtain ⟨_, _, cv9, iv9, yv9⟩ := hv
  have kT16 : (some (.inr x4)) = some x → ps_At mX3_meanOf d 63 [(3, .int x3), (4, .int x4)] [] g Q := fun h => by
    exact ps_weak (he x4 (Option.some.inj h).symm) ⟨rfl, rfl, trivial⟩
  refine ⟨⟨some _, rfl⟩, _, _, cv7, dv7, _, _, cv9, iv9, _, yv9, ?_⟩
  refine And.intro (fun hc10 => ?_) (fun hc10 => ?_)
  · exact ps_weak (kT16 (q_ifp (Or.inl hc10) h)) ⟨rfl, rfl, trivial⟩
  · refine And.intro (fun hc11 => ?_) (fun hc11 => ?_)
    · exact ps_weak (kT16 (q_ifp (Or.inr (hc11)) h)) ⟨rfl, rfl, trivial⟩
    · replace h := q_ifn (not_or.mpr ⟨hc10, hc11⟩) h
      replace h := q_be h
      obtain ⟨v13, hv, h⟩ := h
      replace hv := q_fR_e hv
      obtain ⟨_, cv13, dv13⟩ := hv
      replace h := q_be h
      obtain ⟨a14, ea14, h⟩ := h
      subst ea14
      replace h := q_be h
      obtain ⟨v15, hv, h⟩ := h
      replace hv := q_aI_e hv
      obtain ⟨_, _, cv15, iv15, yv15⟩ := hv
      refine ⟨⟨some _, rfl⟩, _, _, cv13, dv13, _, _, cv15, iv15, _, yv15, by decide, by decide, ?_⟩
      exact ps_weak (hh (x4 + ((q_shr v15 x2) &&& (255 : Int32)), x5 + (1 : Int32)) (Option.some.inj h).symm) ⟨rfl, rfl, rfl, rfl, rfl, rfl, trivial⟩
noncomputable def jX3_meanOf_79 (g : ps_G) (k0 : Int32) : Option (Int32) := some k0
theorem pjX3_meanOf_79 {d : Nat} {Q : ps_Rs → ps_G → Prop} {g : ps_G} {k0 : Int32} {r : Int32} (h : jX3_meanOf_79 g k0 = some r) (hk : Q (.inl (some (.int r))) g) : ps_At mX3_meanOf d 79 [] [.int k0] g Q := by
  unfold jX3_meanOf_79 at h
  refine sX3_meanOf_79 ?_
  cases h
  exact ⟨rfl, hk⟩
noncomputable def jX3_meanOf_63 (g : ps_G) (x3 : Int32) (x4 : Int32) : Option (Int32) := if x3 ≤ 0 then (jX3_meanOf_79 g (0 : Int32)) else (Option.bind (q_div (x4 + (x3 / (2 : Int32))) x3) fun v21 => jX3_meanOf_79 g v21)
theorem pjX3_meanOf_63 {d : Nat} {Q : ps_Rs → ps_G → Prop} {g : ps_G} {x3 : Int32} {x4 : Int32} {r : Int32} (h : jX3_meanOf_63 g x3 x4 = some r) (hk : Q (.inl (some (.int r))) g) : ps_At mX3_meanOf d 63 [(3, .int x3), (4, .int x4)] [] g Q := by
  unfold jX3_meanOf_63 at h
  refine sX3_meanOf_63 ?_
  refine And.intro (fun hc19 => ?_) (fun hc19 => ?_)
  · replace h := q_ifp (hc19) h
    refine sX3_meanOf_78 ?_
    exact ps_weak (pjX3_meanOf_79 h hk) trivial
  · replace h := q_ifn (hc19) h
    replace h := q_be h
    obtain ⟨v21, hv, h⟩ := h
    replace hv := q_div_e hv
    obtain ⟨zv21, yv21⟩ := hv
    refine ⟨by decide, _, rfl, zv21, _, yv21, ?_⟩
    exact ps_weak (pjX3_meanOf_79 h hk) trivial
noncomputable def fX3_meanOf (g : ps_G) (x0 : Nat) (x1 : Int32) (x2 : Int32) : Option (Int32) := Option.bind (q_fR 3 6 g x0) fun v1 => Option.bind (v1) fun a2 => Option.bind (q_aI g a2 x1) fun v3 => Option.bind (q_fR 3 5 g x0) fun v4 => Option.bind (v4) fun a5 => Option.bind (q_aI g a5 x1) fun v6 => Option.bind (q_lp (fun s => bX3_meanOf_18 g x0 x1 x2 v3 s.1 s.2) ((0 : Int32), v6)) fun s18 => jX3_meanOf_63 g v3 s18
theorem rX3_meanOf {d : Nat} {Q : ps_Rs → ps_G → Prop} {g : ps_G} {x0 : Nat} {x1 : Int32} {x2 : Int32} {r : Int32} (h : fX3_meanOf g x0 x1 x2 = some r) (hk : Q (.inl (some (.int r))) g) : ps_Ok mX3_meanOf d [.ref x0, .int x1, .int x2] g Q := by
  unfold fX3_meanOf at h
  refine sX3_meanOf_0 ?_
  replace h := q_be h
  obtain ⟨v1, hv, h⟩ := h
  replace hv := q_fR_e hv
  obtain ⟨_, cv1, dv1⟩ := hv
  replace h := q_be h
  obtain ⟨a2, ea2, h⟩ := h
  subst ea2
  replace h := q_be h
  obtain ⟨v3, hv, h⟩ := h
  replace hv := q_aI_e hv
  obtain ⟨_, _, cv3, iv3, yv3⟩ := hv
  replace h := q_be h
  obtain ⟨v4, hv, h⟩ := h
  replace hv := q_fR_e hv
  obtain ⟨_, cv4, dv4⟩ := hv
  replace h := q_be h
  obtain ⟨a5, ea5, h⟩ := h
  subst ea5
  replace h := q_be h
  obtain ⟨v6, hv, h⟩ := h
  replace hv := q_aI_e hv
  obtain ⟨_, _, cv6, iv6, yv6⟩ := hv
  refine ⟨⟨some _, rfl⟩, _, _, cv1, dv1, _, _, cv3, iv3, _, yv3, by decide, by decide, ⟨some _, rfl⟩, _, _, cv4, dv4, _, _, cv6, iv6, _, yv6, by decide, ?_⟩
  replace h := q_be h
  obtain ⟨s18, hl, h⟩ := h
  refine ps_weak (q_lp_ok hl (fun s => ps_At mX3_meanOf d 18 [(0, .ref x0), (1, .int x1), (2, .int x2), (3, .int v3), (4, .int s.1), (5, .int s.2)] [] g Q) (fun r => ps_At mX3_meanOf d 63 [(3, .int v3), (4, .int r)] [] g Q) (fun s x hb hh he => pbX3_meanOf_18 hb hh he) ?_) ⟨rfl, rfl, rfl, rfl, rfl, rfl, trivial⟩
  refine (?_ : ps_At mX3_meanOf d 63 [(3, .int v3), (4, .int s18)] [] g Q)
  exact ps_weak (pjX3_meanOf_63 h hk) ⟨rfl, rfl, trivial⟩
noncomputable def jX3_boxes_54_6 (g : ps_G) (x0 : Nat) (x1 : Nat) (x2 : Int32) (x3 : Int32) (x4 : Int32) (x5 : Int32) : Option ((Int32 × Int32 × ps_G) ⊕ (Int32 × ps_G)) := some (.inl (x4, x5 + (1 : Int32), g))
theorem pjX3_boxes_54_6 {d : Nat} {Q : ps_Rs → ps_G → Prop} {g : ps_G} {x0 : Nat} {x1 : Nat} {x2 : Int32} {x3 : Int32} {x4 : Int32} {x5 : Int32} {x : (Int32 × Int32 × ps_G) ⊕ (Int32 × ps_G)} (h : jX3_boxes_54_6 g x0 x1 x2 x3 x4 x5 = some x) (hh : ∀ s' : Int32 × Int32 × ps_G, x = .inl s' → ps_At mX3_boxes (d + 3) 6 [(0, .ref x0), (1, .ref x1), (2, .int x2), (3, .int x3), (4, .int s'.1), (5, .int s'.2.1)] [] s'.2.2 Q) (he : ∀ r' : Int32 × ps_G, x = .inr r' → ps_At mX3_boxes (d + 3) 60 [(0, .ref x0), (3, .int x3), (4, .int r'.1)] [] r'.2 Q) : ps_At mX3_boxes (d + 3) 54 [(0, .ref x0), (1, .ref x1), (2, .int x2), (3, .int x3), (4, .int x4), (5, .int x5)] [] g Q := by
  unfold jX3_boxes_54_6 at h
  refine sX3_boxes_54 ?_
  refine ⟨by decide, ?_⟩
  exact ps_weak (hh (x4, x5 + (1 : Int32), g) (Option.some.inj h).symm) ⟨rfl, rfl, rfl, rfl, rfl, rfl, trivial⟩
noncomputable def bX3_boxes_6 (x0 : Nat) (x1 : Nat) (x2 : Int32) (x3 : Int32) (x4 : Int32) (x5 : Int32) (g : ps_G) : Option ((Int32 × Int32 × ps_G) ⊕ (Int32 × ps_G)) := if x2 ≤ x5 then (some (.inr (x4, g))) else (Option.bind (q_len g x1) fun v3 => if (v3 ≤ x5) ∨ ((576 : Int32) ≤ x5) then (some (.inr (x4, g))) else (Option.bind (q_aI g x1 x5) fun v7 => if (q_ush v7 (24 : Int32)) = 0 then (jX3_boxes_54_6 g x0 x1 x2 x3 x4 x5) else (Option.bind (q_fR 3 4 g x0) fun v10 => Option.bind (v10) fun a11 => Option.bind (q_aI g x1 x5) fun v12 => Option.bind (q_wI g a11 x4 (v12 &&& (16777215 : Int32))) fun g13 => jX3_boxes_54_6 g13 x0 x1 x2 x3 (x4 + (1 : Int32)) x5)))
theorem pbX3_boxes_6 {d : Nat} {Q : ps_Rs → ps_G → Prop}  {x0 : Nat} {x1 : Nat} {x2 : Int32} {x3 : Int32} {x4 : Int32} {x5 : Int32} {g : ps_G} {x : (Int32 × Int32 × ps_G) ⊕ (Int32 × ps_G)} (h : bX3_boxes_6 x0 x1 x2 x3 x4 x5 g = some x) (hh : ∀ s' : Int32 × Int32 × ps_G, x = .inl s' → ps_At mX3_boxes (d + 3) 6 [(0, .ref x0), (1, .ref x1), (2, .int x2), (3, .int x3), (4, .int s'.1), (5, .int s'.2.1)] [] s'.2.2 Q) (he : ∀ r' : Int32 × ps_G, x = .inr r' → ps_At mX3_boxes (d + 3) 60 [(0, .ref x0), (3, .int x3), (4, .int r'.1)] [] r'.2 Q) : ps_At mX3_boxes (d + 3) 6 [(0, .ref x0), (1, .ref x1), (2, .int x2), (3, .int x3), (4, .int x4), (5, .int x5)] [] g Q := by
  unfold bX3_boxes_6 at h
  refine sX3_boxes_6 ?_
  refine And.intro (fun hc1 => ?_) (fun hc1 => ?_)
  · replace h := q_ifp (hc1) h
    exact ps_weak (he (x4, g) (Option.some.inj h).symm) ⟨rfl, rfl, rfl, trivial⟩
  · replace h := q_ifn (hc1) h
    replace h := q_be h
    obtain ⟨v3, hv, h⟩ := h
    replace hv := q_len_e hv
    obtain ⟨_, _, cv3, qv3, yv3⟩ := hv
    have kT16 : (some (.inr (x4, g))) = some x → ps_At mX3_boxes (d + 3) 60 [(0, .ref x0), (3, .int x3), (4, .int x4)] [] g Q := fun h => by
      exact ps_weak (he (x4, g) (Option.some.inj h).symm) ⟨rfl, rfl, rfl, trivial⟩
    refine ⟨⟨some _, rfl⟩, _, _, cv3, qv3, _, yv3, ?_⟩
    refine And.intro (fun hc4 => ?_) (fun hc4 => ?_)
    · exact ps_weak (kT16 (q_ifp (Or.inl hc4) h)) ⟨rfl, rfl, rfl, trivial⟩
    · refine And.intro (fun hc5 => ?_) (fun hc5 => ?_)
      · exact ps_weak (kT16 (q_ifp (Or.inr (hc5)) h)) ⟨rfl, rfl, rfl, trivial⟩
      · replace h := q_ifn (not_or.mpr ⟨hc4, hc5⟩) h
        replace h := q_be h
        obtain ⟨v7, hv, h⟩ := h
        replace hv := q_aI_e hv
        obtain ⟨_, _, cv7, iv7, yv7⟩ := hv
        refine ⟨⟨some _, rfl⟩, _, _, cv7, iv7, _, yv7, ?_⟩
        refine And.intro (fun hc8 => ?_) (fun hc8 => ?_)
        · replace h := q_ifp (hc8) h
          exact ps_weak (pjX3_boxes_54_6 h hh he) ⟨rfl, rfl, rfl, rfl, rfl, rfl, trivial⟩
        · replace h := q_ifn (hc8) h
          replace h := q_be h
          obtain ⟨v10, hv, h⟩ := h
          replace hv := q_fR_e hv
          obtain ⟨_, cv10, dv10⟩ := hv
          replace h := q_be h
          obtain ⟨a11, ea11, h⟩ := h
          subst ea11
          replace h := q_be h
          obtain ⟨v12, hv, h⟩ := h
          replace hv := q_aI_e hv
          obtain ⟨_, _, cv12, iv12, yv12⟩ := hv
          replace h := q_be h
          obtain ⟨g13, hv, h⟩ := h
          replace hv := q_wI_e hv
          obtain ⟨_, _, cg13, pg13, ig13, yg13⟩ := hv
          refine ⟨⟨some _, rfl⟩, _, _, cv10, dv10, ⟨some _, rfl⟩, _, _, cv12, iv12, _, yv12, _, _, cg13, pg13, ig13, _, yg13, by decide, ?_⟩
          exact ps_weak (pjX3_boxes_54_6 h hh he) ⟨rfl, rfl, rfl, rfl, rfl, rfl, trivial⟩
noncomputable def bX3_boxes_92 (x0 : Nat) (x3 : Int32) (x5 : Int32) (g : ps_G) : Option ((Int32 × ps_G) ⊕ (ps_G)) := if (x3 ≤ x5) ∨ ((16 : Int32) ≤ x5) then (some (.inr g)) else (Option.bind (q_ob 3 g x0) fun u34 => q_b2 (fX3_findWidest g x0) fun v35 g36 => if v35 = 0 then (some (.inr g36)) else (Option.bind (q_fI 3 9 g36 x0) fun v39 => Option.bind (q_fI 3 10 g36 x0) fun v40 => Option.bind (q_ob 3 g36 x0) fun u41 => Option.bind (fX3_cut g36 x0 v39 v40) fun v42 => some (.inl (x5 + (1 : Int32), v42))))
theorem pbX3_boxes_92 {d : Nat} {Q : ps_Rs → ps_G → Prop}  {x0 : Nat} {x3 : Int32} {x5 : Int32} {g : ps_G} {x : (Int32 × ps_G) ⊕ (ps_G)} (h : bX3_boxes_92 x0 x3 x5 g = some x) (hh : ∀ s' : Int32 × ps_G, x = .inl s' → ps_At mX3_boxes (d + 3) 92 [(0, .ref x0), (3, .int x3), (5, .int s'.1)] [] s'.2 Q) (he : ∀ r' : ps_G, x = .inr r' → ps_At mX3_boxes (d + 3) 130 [(0, .ref x0)] [] r' Q) : ps_At mX3_boxes (d + 3) 92 [(0, .ref x0), (3, .int x3), (5, .int x5)] [] g Q := by
  unfold bX3_boxes_92 at h
  refine sX3_boxes_92 ?_
  have kT45 : (some (.inr g)) = some x → ps_At mX3_boxes (d + 3) 130 [(0, .ref x0)] [] g Q := fun h => by
    exact ps_weak (he g (Option.some.inj h).symm) ⟨rfl, trivial⟩
  refine And.intro (fun hc31 => ?_) (fun hc31 => ?_)
  · exact ps_weak (kT45 (q_ifp (Or.inl hc31) h)) ⟨rfl, trivial⟩
  · refine And.intro (fun hc32 => ?_) (fun hc32 => ?_)
    · exact ps_weak (kT45 (q_ifp (Or.inr (hc32)) h)) ⟨rfl, trivial⟩
    · replace h := q_ifn (not_or.mpr ⟨hc31, hc32⟩) h
      replace h := q_be h
      obtain ⟨u34, hv, h⟩ := h
      replace hv := q_ob_e hv
      obtain ⟨_, cu34⟩ := hv
      replace h := q_b2_e h
      obtain ⟨v35, g36, hv, h⟩ := h
      refine ⟨⟨some _, rfl⟩, ⟨_, cu34⟩, ?_⟩
      refine rX3_findWidest hv ?_
      refine And.intro (fun hc37 => ?_) (fun hc37 => ?_)
      · replace h := q_ifp (hc37) h
        exact ps_weak (he g36 (Option.some.inj h).symm) ⟨rfl, trivial⟩
      · replace h := q_ifn (hc37) h
        replace h := q_be h
        obtain ⟨v39, hv, h⟩ := h
        replace hv := q_fI_e hv
        obtain ⟨_, cv39, dv39⟩ := hv
        replace h := q_be h
        obtain ⟨v40, hv, h⟩ := h
        replace hv := q_fI_e hv
        obtain ⟨_, cv40, dv40⟩ := hv
        replace h := q_be h
        obtain ⟨u41, hv, h⟩ := h
        replace hv := q_ob_e hv
        obtain ⟨_, cu41⟩ := hv
        replace h := q_be h
        obtain ⟨v42, hv, h⟩ := h
        refine ⟨⟨some _, rfl⟩, ⟨some _, rfl⟩, _, _, cv39, dv39, ⟨some _, rfl⟩, _, _, cv40, dv40, ⟨_, cu41⟩, ?_⟩
        refine rX3_cut hv ?_
        refine ⟨by decide, ?_⟩
        exact ps_weak (hh (x5 + (1 : Int32), v42) (Option.some.inj h).symm) ⟨rfl, rfl, rfl, trivial⟩
noncomputable def bX3_boxes_133 (x0 : Nat) (x5 : Int32) (g : ps_G) : Option ((Int32 × ps_G) ⊕ (ps_G)) := Option.bind (q_fI 3 8 g x0) fun v48 => if v48 ≤ x5 then (some (.inr g)) else (Option.bind (q_fR 3 7 g x0) fun v51 => Option.bind (v51) fun a52 => Option.bind (q_ob 3 g x0) fun u53 => Option.bind (fX3_meanOf g x0 x5 (16 : Int32)) fun v54 => Option.bind (q_ob 3 g x0) fun u55 => Option.bind (fX3_meanOf g x0 x5 (8 : Int32)) fun v56 => Option.bind (q_ob 3 g x0) fun u57 => Option.bind (fX3_meanOf g x0 x5 (0 : Int32)) fun v58 => Option.bind (q_wI g a52 x5 (fX11_pack (0 : Int32) v54 v56 v58)) fun g59 => some (.inl (x5 + (1 : Int32), g59)))
theorem pbX3_boxes_133 {d : Nat} {Q : ps_Rs → ps_G → Prop}  {x0 : Nat} {x5 : Int32} {g : ps_G} {x : (Int32 × ps_G) ⊕ (ps_G)} (h : bX3_boxes_133 x0 x5 g = some x) (hh : ∀ s' : Int32 × ps_G, x = .inl s' → ps_At mX3_boxes (d + 3) 133 [(0, .ref x0), (5, .int s'.1)] [] s'.2 Q) (he : ∀ r' : ps_G, x = .inr r' → ps_At mX3_boxes (d + 3) 182 [(0, .ref x0)] [] r' Q) : ps_At mX3_boxes (d + 3) 133 [(0, .ref x0), (5, .int x5)] [] g Q := by
  unfold bX3_boxes_133 at h
  refine sX3_boxes_133 ?_
  replace h := q_be h
  obtain ⟨v48, hv, h⟩ := h
  replace hv := q_fI_e hv
  obtain ⟨_, cv48, dv48⟩ := hv
  refine ⟨⟨some _, rfl⟩, _, _, cv48, dv48, ?_⟩
  refine And.intro (fun hc49 => ?_) (fun hc49 => ?_)
  · replace h := q_ifp (hc49) h
    exact ps_weak (he g (Option.some.inj h).symm) ⟨rfl, trivial⟩
  · replace h := q_ifn (hc49) h
    replace h := q_be h
    obtain ⟨v51, hv, h⟩ := h
    replace hv := q_fR_e hv
    obtain ⟨_, cv51, dv51⟩ := hv
    replace h := q_be h
    obtain ⟨a52, ea52, h⟩ := h
    subst ea52
    replace h := q_be h
    obtain ⟨u53, hv, h⟩ := h
    replace hv := q_ob_e hv
    obtain ⟨_, cu53⟩ := hv
    replace h := q_be h
    obtain ⟨v54, hv, h⟩ := h
    refine ⟨⟨some _, rfl⟩, _, _, cv51, dv51, ⟨some _, rfl⟩, ⟨_, cu53⟩, ?_⟩
    refine rX3_meanOf hv ?_
    replace h := q_be h
    obtain ⟨u55, hv, h⟩ := h
    replace hv := q_ob_e hv
    obtain ⟨_, cu55⟩ := hv
    replace h := q_be h
    obtain ⟨v56, hv, h⟩ := h
    refine ⟨⟨some _, rfl⟩, ⟨_, cu55⟩, ?_⟩
    refine rX3_meanOf hv ?_
    replace h := q_be h
    obtain ⟨u57, hv, h⟩ := h
    replace hv := q_ob_e hv
    obtain ⟨_, cu57⟩ := hv
    replace h := q_be h
    obtain ⟨v58, hv, h⟩ := h
    refine ⟨⟨some _, rfl⟩, ⟨_, cu57⟩, ?_⟩
    refine rX3_meanOf hv ?_
    refine rX11_pack rfl ?_
    refine sX3_boxes_175 ?_
    replace h := q_be h
    obtain ⟨g59, hv, h⟩ := h
    replace hv := q_wI_e hv
    obtain ⟨_, _, cg59, pg59, ig59, yg59⟩ := hv
    refine ⟨_, _, cg59, pg59, ig59, _, yg59, by decide, ?_⟩
    exact ps_weak (hh (x5 + (1 : Int32), g59) (Option.some.inj h).symm) ⟨rfl, rfl, trivial⟩
noncomputable def jX3_boxes_130 (g : ps_G) (x0 : Nat) : Option (Int32 × ps_G) := Option.bind (q_lp (fun s => bX3_boxes_133 x0 s.1 s.2) ((0 : Int32), g)) fun s62 => Option.bind (q_fI 3 8 s62 x0) fun v63 => some (v63, s62)
theorem pjX3_boxes_130 {d : Nat} {Q : ps_Rs → ps_G → Prop} {g : ps_G} {x0 : Nat} {r : Int32 × ps_G} (h : jX3_boxes_130 g x0 = some r) (hk : Q (.inl (some (.int r.1))) r.2) : ps_At mX3_boxes (d + 3) 130 [(0, .ref x0)] [] g Q := by
  unfold jX3_boxes_130 at h
  refine sX3_boxes_130 ?_
  refine ⟨by decide, ?_⟩
  replace h := q_be h
  obtain ⟨s62, hl, h⟩ := h
  refine ps_weak (q_lp_ok hl (fun s => ps_At mX3_boxes (d + 3) 133 [(0, .ref x0), (5, .int s.1)] [] s.2 Q) (fun r => ps_At mX3_boxes (d + 3) 182 [(0, .ref x0)] [] r Q) (fun s x hb hh he => pbX3_boxes_133 hb hh he) ?_) ⟨rfl, rfl, trivial⟩
  refine (?_ : ps_At mX3_boxes (d + 3) 182 [(0, .ref x0)] [] s62 Q)
  refine sX3_boxes_182 ?_
  replace h := q_be h
  obtain ⟨v63, hv, h⟩ := h
  replace hv := q_fI_e hv
  obtain ⟨_, cv63, dv63⟩ := hv
  cases h
  exact ⟨⟨some _, rfl⟩, _, _, cv63, dv63, rfl, hk⟩
noncomputable def jX3_boxes_60 (g : ps_G) (x0 : Nat) (x3 : Int32) (x4 : Int32) : Option (Int32 × ps_G) := Option.bind (q_sI 3 8 g x0 (if x4 ≤ 0 then (0 : Int32) else (1 : Int32))) fun g24 => Option.bind (q_fR 3 5 g24 x0) fun v25 => Option.bind (v25) fun a26 => Option.bind (q_wI g24 a26 (0 : Int32) (0 : Int32)) fun g27 => Option.bind (q_fR 3 6 g27 x0) fun v28 => Option.bind (v28) fun a29 => Option.bind (q_wI g27 a29 (0 : Int32) x4) fun g30 => Option.bind (q_lp (fun s => bX3_boxes_92 x0 x3 s.1 s.2) ((1 : Int32), g30)) fun s47 => jX3_boxes_130 s47 x0
theorem pjX3_boxes_60 {d : Nat} {Q : ps_Rs → ps_G → Prop} {g : ps_G} {x0 : Nat} {x3 : Int32} {x4 : Int32} {r : Int32 × ps_G} (h : jX3_boxes_60 g x0 x3 x4 = some r) (hk : Q (.inl (some (.int r.1))) r.2) : ps_At mX3_boxes (d + 3) 60 [(0, .ref x0), (3, .int x3), (4, .int x4)] [] g Q := by
  unfold jX3_boxes_60 at h
  refine sX3_boxes_60 ?_
  have kJ23 : ∀ w22 : Int32, w22 = (if x4 ≤ 0 then (0 : Int32) else (1 : Int32)) → ps_At mX3_boxes (d + 3) 71 [(0, .ref x0), (3, .int x3), (4, .int x4)] [.int w22, .ref x0] g Q := by
    rintro _ rfl
    refine sX3_boxes_71 ?_
    replace h := q_be h
    obtain ⟨g24, hv, h⟩ := h
    replace hv := q_sI_e hv
    obtain ⟨_, cg24, dg24, yg24⟩ := hv
    replace h := q_be h
    obtain ⟨v25, hv, h⟩ := h
    replace hv := q_fR_e hv
    obtain ⟨_, cv25, dv25⟩ := hv
    replace h := q_be h
    obtain ⟨a26, ea26, h⟩ := h
    subst ea26
    replace h := q_be h
    obtain ⟨g27, hv, h⟩ := h
    replace hv := q_wI_e hv
    obtain ⟨_, _, cg27, pg27, ig27, yg27⟩ := hv
    replace h := q_be h
    obtain ⟨v28, hv, h⟩ := h
    replace hv := q_fR_e hv
    obtain ⟨_, cv28, dv28⟩ := hv
    replace h := q_be h
    obtain ⟨a29, ea29, h⟩ := h
    subst ea29
    replace h := q_be h
    obtain ⟨g30, hv, h⟩ := h
    replace hv := q_wI_e hv
    obtain ⟨_, _, cg30, pg30, ig30, yg30⟩ := hv
    refine ⟨_, cg24, dg24, rfl, rfl, _, yg24, ⟨some _, rfl⟩, _, _, cv25, dv25, _, _, cg27, pg27, ig27, _, yg27, ⟨some _, rfl⟩, _, _, cv28, dv28, _, _, cg30, pg30, ig30, _, yg30, by decide, ?_⟩
    replace h := q_be h
    obtain ⟨s47, hl, h⟩ := h
    refine ps_weak (q_lp_ok hl (fun s => ps_At mX3_boxes (d + 3) 92 [(0, .ref x0), (3, .int x3), (5, .int s.1)] [] s.2 Q) (fun r => ps_At mX3_boxes (d + 3) 130 [(0, .ref x0)] [] r Q) (fun s x hb hh he => pbX3_boxes_92 hb hh he) ?_) ⟨rfl, rfl, rfl, trivial⟩
    refine (?_ : ps_At mX3_boxes (d + 3) 130 [(0, .ref x0)] [] s47 Q)
    exact ps_weak (pjX3_boxes_130 h hk) ⟨rfl, trivial⟩
  refine ⟨⟨some _, rfl⟩, ?_⟩
  refine And.intro (fun hc21 => ?_) (fun hc21 => ?_)
  · refine sX3_boxes_70 ?_
    exact ps_weak (kJ23 _ (if_pos (hc21)).symm) ⟨rfl, rfl, rfl, trivial⟩
  · exact ps_weak (kJ23 _ (if_neg (hc21)).symm) ⟨rfl, rfl, rfl, trivial⟩
noncomputable def fX3_boxes (g : ps_G) (x0 : Nat) (x1 : Nat) (x2 : Int32) (x3 : Int32) : Option (Int32 × ps_G) := Option.bind (q_lp (fun s => bX3_boxes_6 x0 x1 x2 x3 s.1 s.2.1 s.2.2) ((0 : Int32), (0 : Int32), g)) fun s20 => jX3_boxes_60 s20.2 x0 x3 s20.1
theorem rX3_boxes {d : Nat} {Q : ps_Rs → ps_G → Prop} {g : ps_G} {x0 : Nat} {x1 : Nat} {x2 : Int32} {x3 : Int32} {r : Int32 × ps_G} (h : fX3_boxes g x0 x1 x2 x3 = some r) (hk : Q (.inl (some (.int r.1))) r.2) : ps_Ok mX3_boxes (d + 3) [.ref x0, .ref x1, .int x2, .int x3] g Q := by
  unfold fX3_boxes at h
  refine sX3_boxes_0 ?_
  refine ⟨by decide, by decide, ?_⟩
  replace h := q_be h
  obtain ⟨s20, hl, h⟩ := h
  refine ps_weak (q_lp_ok hl (fun s => ps_At mX3_boxes (d + 3) 6 [(0, .ref x0), (1, .ref x1), (2, .int x2), (3, .int x3), (4, .int s.1), (5, .int s.2.1)] [] s.2.2 Q) (fun r => ps_At mX3_boxes (d + 3) 60 [(0, .ref x0), (3, .int x3), (4, .int r.1)] [] r.2 Q) (fun s x hb hh he => pbX3_boxes_6 hb hh he) ?_) ⟨rfl, rfl, rfl, rfl, rfl, rfl, trivial⟩
  refine (?_ : ps_At mX3_boxes (d + 3) 60 [(0, .ref x0), (3, .int x3), (4, .int s20.1)] [] s20.2 Q)
  exact ps_weak (pjX3_boxes_60 h hk) ⟨rfl, rfl, rfl, trivial⟩
noncomputable def bX3_nearestColour_10 (g : ps_G) (x0 : Nat) (x1 : Int32) (x2 : Int32) (x3 : Int32) (x4 : Int32) (x5 : Int32) (x6 : Int32) : Option ((Int32 × Int32 × Int32) ⊕ (Int32)) := Option.bind (q_fI 3 8 g x0) fun v1 => if (v1 ≤ x6) ∨ ((16 : Int32) ≤ x6) then (some (.inr x4)) else (Option.bind (q_fR 3 7 g x0) fun v5 => Option.bind (v5) fun a6 => Option.bind (q_aI g a6 x6) fun v7 => Option.bind (q_fR 3 7 g x0) fun v8 => Option.bind (v8) fun a9 => Option.bind (q_aI g a9 x6) fun v10 => Option.bind (q_fR 3 7 g x0) fun v11 => Option.bind (v11) fun a12 => Option.bind (q_aI g a12 x6) fun v13 => some (.inl ((if x5 ≤ ((((x1 - (fX11_red v7)) * (x1 - (fX11_red v7))) + ((x2 - (fX11_green v10)) * (x2 - (fX11_green v10)))) + ((x3 - (fX11_blue v13)) * (x3 - (fX11_blue v13)))) then x4 else x6), (if x5 ≤ ((((x1 - (fX11_red v7)) * (x1 - (fX11_red v7))) + ((x2 - (fX11_green v10)) * (x2 - (fX11_green v10)))) + ((x3 - (fX11_blue v13)) * (x3 - (fX11_blue v13)))) then x5 else (((x1 - (fX11_red v7)) * (x1 - (fX11_red v7))) + ((x2 - (fX11_green v10)) * (x2 - (fX11_green v10)))) + ((x3 - (fX11_blue v13)) * (x3 - (fX11_blue v13)))), x6 + (1 : Int32))))
theorem pbX3_nearestColour_10 {d : Nat} {Q : ps_Rs → ps_G → Prop} {g : ps_G} {x0 : Nat} {x1 : Int32} {x2 : Int32} {x3 : Int32} {x4 : Int32} {x5 : Int32} {x6 : Int32} {x : (Int32 × Int32 × Int32) ⊕ (Int32)} (h : bX3_nearestColour_10 g x0 x1 x2 x3 x4 x5 x6 = some x) (hh : ∀ s' : Int32 × Int32 × Int32, x = .inl s' → ps_At mX3_nearestColour (d + 1) 10 [(0, .ref x0), (1, .int x1), (2, .int x2), (3, .int x3), (4, .int s'.1), (5, .int s'.2.1), (6, .int s'.2.2)] [] g Q) (he : ∀ r' : Int32, x = .inr r' → ps_At mX3_nearestColour (d + 1) 119 [(0, .ref x0), (4, .int r')] [] g Q) : ps_At mX3_nearestColour (d + 1) 10 [(0, .ref x0), (1, .int x1), (2, .int x2), (3, .int x3), (4, .int x4), (5, .int x5), (6, .int x6)] [] g Q := by
  unfold bX3_nearestColour_10 at h
  refine sX3_nearestColour_10 ?_
  replace h := q_be h
  obtain ⟨v1, hv, h⟩ := h
  replace hv := q_fI_e hv
  obtain ⟨_, cv1, dv1⟩ := hv
  have kT18 : (some (.inr x4)) = some x → ps_At mX3_nearestColour (d + 1) 119 [(0, .ref x0), (4, .int x4)] [] g Q := fun h => by
    exact ps_weak (he x4 (Option.some.inj h).symm) ⟨rfl, rfl, trivial⟩
  refine ⟨⟨some _, rfl⟩, _, _, cv1, dv1, ?_⟩
  refine And.intro (fun hc2 => ?_) (fun hc2 => ?_)
  · exact ps_weak (kT18 (q_ifp (Or.inl hc2) h)) ⟨rfl, rfl, trivial⟩
  · refine And.intro (fun hc3 => ?_) (fun hc3 => ?_)
    · exact ps_weak (kT18 (q_ifp (Or.inr (hc3)) h)) ⟨rfl, rfl, trivial⟩
    · replace h := q_ifn (not_or.mpr ⟨hc2, hc3⟩) h
      replace h := q_be h
      obtain ⟨v5, hv, h⟩ := h
      replace hv := q_fR_e hv
      obtain ⟨_, cv5, dv5⟩ := hv
      replace h := q_be h
      obtain ⟨a6, ea6, h⟩ := h
      subst ea6
      replace h := q_be h
      obtain ⟨v7, hv, h⟩ := h
      replace hv := q_aI_e hv
      obtain ⟨_, _, cv7, iv7, yv7⟩ := hv
      refine ⟨⟨some _, rfl⟩, _, _, cv5, dv5, _, _, cv7, iv7, _, yv7, ?_⟩
      refine rX11_red rfl ?_
      replace h := q_be h
      obtain ⟨v8, hv, h⟩ := h
      replace hv := q_fR_e hv
      obtain ⟨_, cv8, dv8⟩ := hv
      replace h := q_be h
      obtain ⟨a9, ea9, h⟩ := h
      subst ea9
      replace h := q_be h
      obtain ⟨v10, hv, h⟩ := h
      replace hv := q_aI_e hv
      obtain ⟨_, _, cv10, iv10, yv10⟩ := hv
      refine ⟨by decide, ⟨some _, rfl⟩, _, _, cv8, dv8, _, _, cv10, iv10, _, yv10, ?_⟩
      refine rX11_green rfl ?_
      replace h := q_be h
      obtain ⟨v11, hv, h⟩ := h
      replace hv := q_fR_e hv
      obtain ⟨_, cv11, dv11⟩ := hv
      replace h := q_be h
      obtain ⟨a12, ea12, h⟩ := h
      subst ea12
      replace h := q_be h
      obtain ⟨v13, hv, h⟩ := h
      replace hv := q_aI_e hv
      obtain ⟨_, _, cv13, iv13, yv13⟩ := hv
      refine ⟨by decide, ⟨some _, rfl⟩, _, _, cv11, dv11, _, _, cv13, iv13, _, yv13, ?_⟩
      refine rX11_blue rfl ?_
      have kJ17 : ∀ w15 : Int32, w15 = (if x5 ≤ ((((x1 - (fX11_red v7)) * (x1 - (fX11_red v7))) + ((x2 - (fX11_green v10)) * (x2 - (fX11_green v10)))) + ((x3 - (fX11_blue v13)) * (x3 - (fX11_blue v13)))) then x4 else x6) → ∀ w16 : Int32, w16 = (if x5 ≤ ((((x1 - (fX11_red v7)) * (x1 - (fX11_red v7))) + ((x2 - (fX11_green v10)) * (x2 - (fX11_green v10)))) + ((x3 - (fX11_blue v13)) * (x3 - (fX11_blue v13)))) then x5 else (((x1 - (fX11_red v7)) * (x1 - (fX11_red v7))) + ((x2 - (fX11_green v10)) * (x2 - (fX11_green v10)))) + ((x3 - (fX11_blue v13)) * (x3 - (fX11_blue v13)))) → ps_At mX3_nearestColour (d + 1) 113 [(0, .ref x0), (1, .int x1), (2, .int x2), (3, .int x3), (4, .int w15), (5, .int w16), (6, .int x6)] [] g Q := by
        rintro _ rfl _ rfl
        refine sX3_nearestColour_113 ?_
        refine ⟨by decide, ?_⟩
        exact ps_weak (hh ((if x5 ≤ ((((x1 - (fX11_red v7)) * (x1 - (fX11_red v7))) + ((x2 - (fX11_green v10)) * (x2 - (fX11_green v10)))) + ((x3 - (fX11_blue v13)) * (x3 - (fX11_blue v13)))) then x4 else x6), (if x5 ≤ ((((x1 - (fX11_red v7)) * (x1 - (fX11_red v7))) + ((x2 - (fX11_green v10)) * (x2 - (fX11_green v10)))) + ((x3 - (fX11_blue v13)) * (x3 - (fX11_blue v13)))) then x5 else (((x1 - (fX11_red v7)) * (x1 - (fX11_red v7))) + ((x2 - (fX11_green v10)) * (x2 - (fX11_green v10)))) + ((x3 - (fX11_blue v13)) * (x3 - (fX11_blue v13)))), x6 + (1 : Int32)) (Option.some.inj h).symm) ⟨rfl, rfl, rfl, rfl, rfl, rfl, rfl, trivial⟩
      refine ⟨by decide, ?_⟩
      refine And.intro (fun hc14 => ?_) (fun hc14 => ?_)
      · exact ps_weak (kJ17 _ (if_pos (hc14)).symm _ (if_pos (hc14)).symm) ⟨rfl, rfl, rfl, rfl, rfl, rfl, rfl, trivial⟩
      · refine ⟨by decide, by decide, ?_⟩
        exact ps_weak (kJ17 _ (if_neg (hc14)).symm _ (if_neg (hc14)).symm) ⟨rfl, rfl, rfl, rfl, rfl, rfl, rfl, trivial⟩
noncomputable def jX3_nearestColour_119 (g : ps_G) (x0 : Nat) (x4 : Int32) : Option (Int32) := Option.bind (q_fR 3 7 g x0) fun v21 => Option.bind (v21) fun a22 => Option.bind (q_aI g a22 x4) fun v23 => some v23
theorem pjX3_nearestColour_119 {d : Nat} {Q : ps_Rs → ps_G → Prop} {g : ps_G} {x0 : Nat} {x4 : Int32} {r : Int32} (h : jX3_nearestColour_119 g x0 x4 = some r) (hk : Q (.inl (some (.int r))) g) : ps_At mX3_nearestColour (d + 1) 119 [(0, .ref x0), (4, .int x4)] [] g Q := by
  unfold jX3_nearestColour_119 at h
  refine sX3_nearestColour_119 ?_
  replace h := q_be h
  obtain ⟨v21, hv, h⟩ := h
  replace hv := q_fR_e hv
  obtain ⟨_, cv21, dv21⟩ := hv
  replace h := q_be h
  obtain ⟨a22, ea22, h⟩ := h
  subst ea22
  replace h := q_be h
  obtain ⟨v23, hv, h⟩ := h
  replace hv := q_aI_e hv
  obtain ⟨_, _, cv23, iv23, yv23⟩ := hv
  cases h
  exact ⟨⟨some _, rfl⟩, _, _, cv21, dv21, _, _, cv23, iv23, _, yv23, rfl, hk⟩
noncomputable def fX3_nearestColour (g : ps_G) (x0 : Nat) (x1 : Int32) (x2 : Int32) (x3 : Int32) : Option (Int32) := Option.bind (q_lp (fun s => bX3_nearestColour_10 g x0 x1 x2 x3 s.1 s.2.1 s.2.2) ((0 : Int32), (1073741824 : Int32), (0 : Int32))) fun s20 => jX3_nearestColour_119 g x0 s20
theorem rX3_nearestColour {d : Nat} {Q : ps_Rs → ps_G → Prop} {g : ps_G} {x0 : Nat} {x1 : Int32} {x2 : Int32} {x3 : Int32} {r : Int32} (h : fX3_nearestColour g x0 x1 x2 x3 = some r) (hk : Q (.inl (some (.int r))) g) : ps_Ok mX3_nearestColour (d + 1) [.ref x0, .int x1, .int x2, .int x3] g Q := by
  unfold fX3_nearestColour at h
  refine sX3_nearestColour_0 ?_
  refine ⟨by decide, by decide, by decide, ?_⟩
  replace h := q_be h
  obtain ⟨s20, hl, h⟩ := h
  refine ps_weak (q_lp_ok hl (fun s => ps_At mX3_nearestColour (d + 1) 10 [(0, .ref x0), (1, .int x1), (2, .int x2), (3, .int x3), (4, .int s.1), (5, .int s.2.1), (6, .int s.2.2)] [] g Q) (fun r => ps_At mX3_nearestColour (d + 1) 119 [(0, .ref x0), (4, .int r)] [] g Q) (fun s x hb hh he => pbX3_nearestColour_10 hb hh he) ?_) ⟨rfl, rfl, rfl, rfl, rfl, rfl, rfl, trivial⟩
  refine (?_ : ps_At mX3_nearestColour (d + 1) 119 [(0, .ref x0), (4, .int s20)] [] g Q)
  exact ps_weak (pjX3_nearestColour_119 h hk) ⟨rfl, rfl, trivial⟩
noncomputable def jX3_spread_119 (g : ps_G) : Option (ps_G) := some g
theorem pjX3_spread_119 {d : Nat} {Q : ps_Rs → ps_G → Prop} {g : ps_G}  {r : ps_G} (h : jX3_spread_119 g = some r) (hk : Q (.inl none) r) : ps_At mX3_spread d 119 [] [] g Q := by
  unfold jX3_spread_119 at h
  refine sX3_spread_119 ?_
  cases h
  exact ⟨rfl, rfl, hk⟩
noncomputable def jX3_spread_78 (g : ps_G) (x0 : Nat) (x1 : Int32) (x3 : Int32) (x6 : Int32) (x8 : Int32) : Option (ps_G) := Option.bind (q_fR 3 11 g x0) fun v8 => Option.bind (v8) fun a9 => Option.bind (q_aI g a9 x8) fun v10 => Option.bind (q_wI g a9 x8 (v10 + (((5 : Int32) * x6) / (16 : Int32)))) fun g11 => if x3 ≤ (x1 + (1 : Int32)) then (jX3_spread_119 g11) else (Option.bind (q_fR 3 11 g11 x0) fun v14 => Option.bind (v14) fun a15 => Option.bind (q_aI g11 a15 (x8 + (3 : Int32))) fun v16 => Option.bind (q_wI g11 a15 (x8 + (3 : Int32)) (v16 + (x6 / (16 : Int32)))) fun g17 => jX3_spread_119 g17)
theorem pjX3_spread_78 {d : Nat} {Q : ps_Rs → ps_G → Prop} {g : ps_G} {x0 : Nat} {x1 : Int32} {x3 : Int32} {x6 : Int32} {x8 : Int32} {r : ps_G} (h : jX3_spread_78 g x0 x1 x3 x6 x8 = some r) (hk : Q (.inl none) r) : ps_At mX3_spread d 78 [(0, .ref x0), (1, .int x1), (3, .int x3), (6, .int x6), (8, .int x8)] [] g Q := by
  unfold jX3_spread_78 at h
  refine sX3_spread_78 ?_
  replace h := q_be h
  obtain ⟨v8, hv, h⟩ := h
  replace hv := q_fR_e hv
  obtain ⟨_, cv8, dv8⟩ := hv
  replace h := q_be h
  obtain ⟨a9, ea9, h⟩ := h
  subst ea9
  replace h := q_be h
  obtain ⟨v10, hv, h⟩ := h
  replace hv := q_aI_e hv
  obtain ⟨_, _, cv10, iv10, yv10⟩ := hv
  replace h := q_be h
  obtain ⟨g11, hv, h⟩ := h
  replace hv := q_wI_e hv
  obtain ⟨_, _, cg11, pg11, ig11, yg11⟩ := hv
  refine ⟨⟨some _, rfl⟩, _, _, cv8, dv8, rfl, rfl, _, _, cv10, iv10, _, yv10, by decide, _, rfl, _, _, cg11, pg11, ig11, _, yg11, ?_⟩
  refine And.intro (fun hc12 => ?_) (fun hc12 => ?_)
  · replace h := q_ifp (hc12) h
    exact ps_weak (pjX3_spread_119 h hk) trivial
  · replace h := q_ifn (hc12) h
    replace h := q_be h
    obtain ⟨v14, hv, h⟩ := h
    replace hv := q_fR_e hv
    obtain ⟨_, cv14, dv14⟩ := hv
    replace h := q_be h
    obtain ⟨a15, ea15, h⟩ := h
    subst ea15
    replace h := q_be h
    obtain ⟨v16, hv, h⟩ := h
    replace hv := q_aI_e hv
    obtain ⟨_, _, cv16, iv16, yv16⟩ := hv
    replace h := q_be h
    obtain ⟨g17, hv, h⟩ := h
    replace hv := q_wI_e hv
    obtain ⟨_, _, cg17, pg17, ig17, yg17⟩ := hv
    refine ⟨⟨some _, rfl⟩, _, _, cv14, dv14, rfl, rfl, _, _, cv16, iv16, _, yv16, by decide, _, rfl, _, _, cg17, pg17, ig17, _, yg17, ?_⟩
    exact ps_weak (pjX3_spread_119 h hk) trivial
noncomputable def jX3_spread_39 (g : ps_G) (x0 : Nat) (x1 : Int32) (x2 : Int32) (x3 : Int32) (x4 : Int32) (x6 : Int32) (x7 : Int32) : Option (ps_G) := if x4 ≤ (x2 + (1 : Int32)) then (jX3_spread_119 g) else (if x1 ≤ 0 then (jX3_spread_78 g x0 x1 x3 x6 (x7 + ((3 : Int32) * x3))) else (Option.bind (q_fR 3 11 g x0) fun v20 => Option.bind (v20) fun a21 => Option.bind (q_aI g a21 ((x7 + ((3 : Int32) * x3)) - (3 : Int32))) fun v22 => Option.bind (q_wI g a21 ((x7 + ((3 : Int32) * x3)) - (3 : Int32)) (v22 + (((3 : Int32) * x6) / (16 : Int32)))) fun g23 => jX3_spread_78 g23 x0 x1 x3 x6 (x7 + ((3 : Int32) * x3))))
theorem pjX3_spread_39 {d : Nat} {Q : ps_Rs → ps_G → Prop} {g : ps_G} {x0 : Nat} {x1 : Int32} {x2 : Int32} {x3 : Int32} {x4 : Int32} {x6 : Int32} {x7 : Int32} {r : ps_G} (h : jX3_spread_39 g x0 x1 x2 x3 x4 x6 x7 = some r) (hk : Q (.inl none) r) : ps_At mX3_spread d 39 [(0, .ref x0), (1, .int x1), (2, .int x2), (3, .int x3), (4, .int x4), (6, .int x6), (7, .int x7)] [] g Q := by
  unfold jX3_spread_39 at h
  refine sX3_spread_39 ?_
  refine And.intro (fun hc3 => ?_) (fun hc3 => ?_)
  · replace h := q_ifp (hc3) h
    exact ps_weak (pjX3_spread_119 h hk) trivial
  · replace h := q_ifn (hc3) h
    refine ⟨by decide, ?_⟩
    refine And.intro (fun hc6 => ?_) (fun hc6 => ?_)
    · replace h := q_ifp (hc6) h
      exact ps_weak (pjX3_spread_78 h hk) ⟨rfl, rfl, rfl, rfl, rfl, trivial⟩
    · replace h := q_ifn (hc6) h
      replace h := q_be h
      obtain ⟨v20, hv, h⟩ := h
      replace hv := q_fR_e hv
      obtain ⟨_, cv20, dv20⟩ := hv
      replace h := q_be h
      obtain ⟨a21, ea21, h⟩ := h
      subst ea21
      replace h := q_be h
      obtain ⟨v22, hv, h⟩ := h
      replace hv := q_aI_e hv
      obtain ⟨_, _, cv22, iv22, yv22⟩ := hv
      replace h := q_be h
      obtain ⟨g23, hv, h⟩ := h
      replace hv := q_wI_e hv
      obtain ⟨_, _, cg23, pg23, ig23, yg23⟩ := hv
      refine ⟨⟨some _, rfl⟩, _, _, cv20, dv20, rfl, rfl, _, _, cv22, iv22, _, yv22, by decide, _, rfl, _, _, cg23, pg23, ig23, _, yg23, ?_⟩
      exact ps_weak (pjX3_spread_78 h hk) ⟨rfl, rfl, rfl, rfl, rfl, trivial⟩
noncomputable def fX3_spread (g : ps_G) (x0 : Nat) (x1 : Int32) (x2 : Int32) (x3 : Int32) (x4 : Int32) (x5 : Int32) (x6 : Int32) : Option (ps_G) := if x3 ≤ (x1 + (1 : Int32)) then (jX3_spread_39 g x0 x1 x2 x3 x4 x6 (((3 : Int32) * ((x2 * x3) + x1)) + x5)) else (Option.bind (q_fR 3 11 g x0) fun v28 => Option.bind (v28) fun a29 => Option.bind (q_aI g a29 ((((3 : Int32) * ((x2 * x3) + x1)) + x5) + (3 : Int32))) fun v30 => Option.bind (q_wI g a29 ((((3 : Int32) * ((x2 * x3) + x1)) + x5) + (3 : Int32)) (v30 + (((7 : Int32) * x6) / (16 : Int32)))) fun g31 => jX3_spread_39 g31 x0 x1 x2 x3 x4 x6 (((3 : Int32) * ((x2 * x3) + x1)) + x5))
theorem rX3_spread {d : Nat} {Q : ps_Rs → ps_G → Prop} {g : ps_G} {x0 : Nat} {x1 : Int32} {x2 : Int32} {x3 : Int32} {x4 : Int32} {x5 : Int32} {x6 : Int32} {r : ps_G} (h : fX3_spread g x0 x1 x2 x3 x4 x5 x6 = some r) (hk : Q (.inl none) r) : ps_Ok mX3_spread d [.ref x0, .int x1, .int x2, .int x3, .int x4, .int x5, .int x6] g Q := by
  unfold fX3_spread at h
  refine sX3_spread_0 ?_
  refine ⟨by decide, ?_⟩
  refine And.intro (fun hc1 => ?_) (fun hc1 => ?_)
  · replace h := q_ifp (hc1) h
    exact ps_weak (pjX3_spread_39 h hk) ⟨rfl, rfl, rfl, rfl, rfl, rfl, rfl, trivial⟩
  · replace h := q_ifn (hc1) h
    replace h := q_be h
    obtain ⟨v28, hv, h⟩ := h
    replace hv := q_fR_e hv
    obtain ⟨_, cv28, dv28⟩ := hv
    replace h := q_be h
    obtain ⟨a29, ea29, h⟩ := h
    subst ea29
    replace h := q_be h
    obtain ⟨v30, hv, h⟩ := h
    replace hv := q_aI_e hv
    obtain ⟨_, _, cv30, iv30, yv30⟩ := hv
    replace h := q_be h
    obtain ⟨g31, hv, h⟩ := h
    replace hv := q_wI_e hv
    obtain ⟨_, _, cg31, pg31, ig31, yg31⟩ := hv
    refine ⟨⟨some _, rfl⟩, _, _, cv28, dv28, rfl, rfl, _, _, cv30, iv30, _, yv30, by decide, _, rfl, _, _, cg31, pg31, ig31, _, yg31, ?_⟩
    exact ps_weak (pjX3_spread_39 h hk) ⟨rfl, rfl, rfl, rfl, rfl, rfl, rfl, trivial⟩
noncomputable def jX3_reduce_218_20 (g : ps_G) (x0 : Nat) (x1 : Nat) (x2 : Int32) (x3 : Int32) (x4 : Int32) (x5 : Int32) (x6 : Int32) : Option ((Int32 × ps_G) ⊕ (ps_G)) := some (.inl (x6 + (1 : Int32), g))
theorem pjX3_reduce_218_20 {d : Nat} {Q : ps_Rs → ps_G → Prop} {g : ps_G} {x0 : Nat} {x1 : Nat} {x2 : Int32} {x3 : Int32} {x4 : Int32} {x5 : Int32} {x6 : Int32} {x : (Int32 × ps_G) ⊕ (ps_G)} (h : jX3_reduce_218_20 g x0 x1 x2 x3 x4 x5 x6 = some x) (hh : ∀ s' : Int32 × ps_G, x = .inl s' → ps_At mX3_reduce (d + 2) 20 [(0, .ref x0), (1, .ref x1), (2, .int x2), (3, .int x3), (4, .int x4), (5, .int x5), (6, .int s'.1)] [] s'.2 Q) (he : ∀ r' : ps_G, x = .inr r' → ps_At mX3_reduce (d + 2) 224 [(0, .ref x0), (1, .ref x1), (2, .int x2), (3, .int x3), (4, .int x4), (5, .int x5)] [] r' Q) : ps_At mX3_reduce (d + 2) 218 [(0, .ref x0), (1, .ref x1), (2, .int x2), (3, .int x3), (4, .int x4), (5, .int x5), (6, .int x6)] [] g Q := by
  unfold jX3_reduce_218_20 at h
  refine sX3_reduce_218 ?_
  refine ⟨by decide, ?_⟩
  exact ps_weak (hh (x6 + (1 : Int32), g) (Option.some.inj h).symm) ⟨rfl, rfl, rfl, rfl, rfl, rfl, rfl, trivial⟩
noncomputable def jX3_reduce_204_20 (g : ps_G) (x0 : Nat) (x1 : Nat) (x2 : Int32) (x3 : Int32) (x4 : Int32) (x5 : Int32) (x6 : Int32) (x7 : Int32) (x11 : Int32) : Option ((Int32 × ps_G) ⊕ (ps_G)) := Option.bind (q_aI g x1 x7) fun v32 => Option.bind (q_wI g x1 x7 ((v32 &&& (-16777216 : Int32)) ||| x11)) fun g33 => jX3_reduce_218_20 g33 x0 x1 x2 x3 x4 x5 x6
theorem pjX3_reduce_204_20 {d : Nat} {Q : ps_Rs → ps_G → Prop} {g : ps_G} {x0 : Nat} {x1 : Nat} {x2 : Int32} {x3 : Int32} {x4 : Int32} {x5 : Int32} {x6 : Int32} {x7 : Int32} {x11 : Int32} {x : (Int32 × ps_G) ⊕ (ps_G)} (h : jX3_reduce_204_20 g x0 x1 x2 x3 x4 x5 x6 x7 x11 = some x) (hh : ∀ s' : Int32 × ps_G, x = .inl s' → ps_At mX3_reduce (d + 2) 20 [(0, .ref x0), (1, .ref x1), (2, .int x2), (3, .int x3), (4, .int x4), (5, .int x5), (6, .int s'.1)] [] s'.2 Q) (he : ∀ r' : ps_G, x = .inr r' → ps_At mX3_reduce (d + 2) 224 [(0, .ref x0), (1, .ref x1), (2, .int x2), (3, .int x3), (4, .int x4), (5, .int x5)] [] r' Q) : ps_At mX3_reduce (d + 2) 204 [(0, .ref x0), (1, .ref x1), (2, .int x2), (3, .int x3), (4, .int x4), (5, .int x5), (6, .int x6), (7, .int x7), (11, .int x11)] [] g Q := by
  unfold jX3_reduce_204_20 at h
  refine sX3_reduce_204 ?_
  replace h := q_be h
  obtain ⟨v32, hv, h⟩ := h
  replace hv := q_aI_e hv
  obtain ⟨_, _, cv32, iv32, yv32⟩ := hv
  replace h := q_be h
  obtain ⟨g33, hv, h⟩ := h
  replace hv := q_wI_e hv
  obtain ⟨_, _, cg33, pg33, ig33, yg33⟩ := hv
  refine ⟨⟨some _, rfl⟩, ⟨some _, rfl⟩, _, _, cv32, iv32, _, yv32, _, _, cg33, pg33, ig33, _, yg33, ?_⟩
  exact ps_weak (pjX3_reduce_218_20 h hh he) ⟨rfl, rfl, rfl, rfl, rfl, rfl, rfl, trivial⟩
noncomputable def bX3_reduce_20 (x0 : Nat) (x1 : Nat) (x2 : Int32) (x3 : Int32) (x4 : Int32) (x5 : Int32) (x6 : Int32) (g : ps_G) : Option ((Int32 × ps_G) ⊕ (ps_G)) := if x2 ≤ x6 then (some (.inr g)) else (if (576 : Int32) ≤ ((x5 * x2) + x6) then (jX3_reduce_218_20 g x0 x1 x2 x3 x4 x5 x6) else (Option.bind (q_len g x1) fun v10 => if v10 ≤ ((x5 * x2) + x6) then (jX3_reduce_218_20 g x0 x1 x2 x3 x4 x5 x6) else (Option.bind (q_aI g x1 ((x5 * x2) + x6)) fun v13 => if (q_ush v13 (24 : Int32)) = 0 then (jX3_reduce_218_20 g x0 x1 x2 x3 x4 x5 x6) else (Option.bind (q_aI g x1 ((x5 * x2) + x6)) fun v16 => Option.bind (q_fR 3 11 g x0) fun v17 => Option.bind (v17) fun a18 => Option.bind (q_aI g a18 ((3 : Int32) * ((x5 * x2) + x6))) fun v19 => Option.bind (q_aI g x1 ((x5 * x2) + x6)) fun v20 => Option.bind (q_fR 3 11 g x0) fun v21 => Option.bind (v21) fun a22 => Option.bind (q_aI g a22 (((3 : Int32) * ((x5 * x2) + x6)) + (1 : Int32))) fun v23 => Option.bind (q_aI g x1 ((x5 * x2) + x6)) fun v24 => Option.bind (q_fR 3 11 g x0) fun v25 => Option.bind (v25) fun a26 => Option.bind (q_aI g a26 (((3 : Int32) * ((x5 * x2) + x6)) + (2 : Int32))) fun v27 => Option.bind (q_ob 3 g x0) fun u28 => Option.bind (fX3_nearestColour g x0 (fX11_clip ((fX11_red v16) + v19)) (fX11_clip ((fX11_green v20) + v23)) (fX11_clip ((fX11_blue v24) + v27))) fun v29 => if x4 = 0 then (jX3_reduce_204_20 g x0 x1 x2 x3 x4 x5 x6 ((x5 * x2) + x6) v29) else (Option.bind (q_ob 3 g x0) fun u34 => Option.bind (fX3_spread g x0 x6 x5 x2 x3 (0 : Int32) ((fX11_clip ((fX11_red v16) + v19)) - (fX11_red v29))) fun v35 => Option.bind (q_ob 3 v35 x0) fun u36 => Option.bind (fX3_spread v35 x0 x6 x5 x2 x3 (1 : Int32) ((fX11_clip ((fX11_green v20) + v23)) - (fX11_green v29))) fun v37 => Option.bind (q_ob 3 v37 x0) fun u38 => Option.bind (fX3_spread v37 x0 x6 x5 x2 x3 (2 : Int32) ((fX11_clip ((fX11_blue v24) + v27)) - (fX11_blue v29))) fun v39 => jX3_reduce_204_20 v39 x0 x1 x2 x3 x4 x5 x6 ((x5 * x2) + x6) v29)))))
theorem pbX3_reduce_20 {d : Nat} {Q : ps_Rs → ps_G → Prop}  {x0 : Nat} {x1 : Nat} {x2 : Int32} {x3 : Int32} {x4 : Int32} {x5 : Int32} {x6 : Int32} {g : ps_G} {x : (Int32 × ps_G) ⊕ (ps_G)} (h : bX3_reduce_20 x0 x1 x2 x3 x4 x5 x6 g = some x) (hh : ∀ s' : Int32 × ps_G, x = .inl s' → ps_At mX3_reduce (d + 2) 20 [(0, .ref x0), (1, .ref x1), (2, .int x2), (3, .int x3), (4, .int x4), (5, .int x5), (6, .int s'.1)] [] s'.2 Q) (he : ∀ r' : ps_G, x = .inr r' → ps_At mX3_reduce (d + 2) 224 [(0, .ref x0), (1, .ref x1), (2, .int x2), (3, .int x3), (4, .int x4), (5, .int x5)] [] r' Q) : ps_At mX3_reduce (d + 2) 20 [(0, .ref x0), (1, .ref x1), (2, .int x2), (3, .int x3), (4, .int x4), (5, .int x5), (6, .int x6)] [] g Q := by
  unfold bX3_reduce_20 at h
  refine sX3_reduce_20 ?_
  refine And.intro (fun hc5 => ?_) (fun hc5 => ?_)
  · replace h := q_ifp (hc5) h
    exact ps_weak (he g (Option.some.inj h).symm) ⟨rfl, rfl, rfl, rfl, rfl, rfl, trivial⟩
  · replace h := q_ifn (hc5) h
    refine ⟨by decide, ?_⟩
    refine And.intro (fun hc8 => ?_) (fun hc8 => ?_)
    · replace h := q_ifp (hc8) h
      exact ps_weak (pjX3_reduce_218_20 h hh he) ⟨rfl, rfl, rfl, rfl, rfl, rfl, rfl, trivial⟩
    · replace h := q_ifn (hc8) h
      replace h := q_be h
      obtain ⟨v10, hv, h⟩ := h
      replace hv := q_len_e hv
      obtain ⟨_, _, cv10, qv10, yv10⟩ := hv
      refine ⟨⟨some _, rfl⟩, _, _, cv10, qv10, _, yv10, ?_⟩
      refine And.intro (fun hc11 => ?_) (fun hc11 => ?_)
      · replace h := q_ifp (hc11) h
        exact ps_weak (pjX3_reduce_218_20 h hh he) ⟨rfl, rfl, rfl, rfl, rfl, rfl, rfl, trivial⟩
      · replace h := q_ifn (hc11) h
        replace h := q_be h
        obtain ⟨v13, hv, h⟩ := h
        replace hv := q_aI_e hv
        obtain ⟨_, _, cv13, iv13, yv13⟩ := hv
        refine ⟨⟨some _, rfl⟩, _, _, cv13, iv13, _, yv13, ?_⟩
        refine And.intro (fun hc14 => ?_) (fun hc14 => ?_)
        · replace h := q_ifp (hc14) h
          exact ps_weak (pjX3_reduce_218_20 h hh he) ⟨rfl, rfl, rfl, rfl, rfl, rfl, rfl, trivial⟩
        · replace h := q_ifn (hc14) h
          replace h := q_be h
          obtain ⟨v16, hv, h⟩ := h
          replace hv := q_aI_e hv
          obtain ⟨_, _, cv16, iv16, yv16⟩ := hv
          refine ⟨⟨some _, rfl⟩, _, _, cv16, iv16, _, yv16, ?_⟩
          refine rX11_red rfl ?_
          replace h := q_be h
          obtain ⟨v17, hv, h⟩ := h
          replace hv := q_fR_e hv
          obtain ⟨_, cv17, dv17⟩ := hv
          replace h := q_be h
          obtain ⟨a18, ea18, h⟩ := h
          subst ea18
          replace h := q_be h
          obtain ⟨v19, hv, h⟩ := h
          replace hv := q_aI_e hv
          obtain ⟨_, _, cv19, iv19, yv19⟩ := hv
          refine ⟨⟨some _, rfl⟩, _, _, cv17, dv17, _, _, cv19, iv19, _, yv19, ?_⟩
          refine rX11_clip rfl ?_
          replace h := q_be h
          obtain ⟨v20, hv, h⟩ := h
          replace hv := q_aI_e hv
          obtain ⟨_, _, cv20, iv20, yv20⟩ := hv
          refine ⟨by decide, ⟨some _, rfl⟩, _, _, cv20, iv20, _, yv20, ?_⟩
          refine rX11_green rfl ?_
          replace h := q_be h
          obtain ⟨v21, hv, h⟩ := h
          replace hv := q_fR_e hv
          obtain ⟨_, cv21, dv21⟩ := hv
          replace h := q_be h
          obtain ⟨a22, ea22, h⟩ := h
          subst ea22
          replace h := q_be h
          obtain ⟨v23, hv, h⟩ := h
          replace hv := q_aI_e hv
          obtain ⟨_, _, cv23, iv23, yv23⟩ := hv
          refine ⟨⟨some _, rfl⟩, _, _, cv21, dv21, _, _, cv23, iv23, _, yv23, ?_⟩
          refine rX11_clip rfl ?_
          refine sX3_reduce_104 ?_
          replace h := q_be h
          obtain ⟨v24, hv, h⟩ := h
          replace hv := q_aI_e hv
          obtain ⟨_, _, cv24, iv24, yv24⟩ := hv
          refine ⟨by decide, ⟨some _, rfl⟩, _, _, cv24, iv24, _, yv24, ?_⟩
          refine rX11_blue rfl ?_
          replace h := q_be h
          obtain ⟨v25, hv, h⟩ := h
          replace hv := q_fR_e hv
          obtain ⟨_, cv25, dv25⟩ := hv
          replace h := q_be h
          obtain ⟨a26, ea26, h⟩ := h
          subst ea26
          replace h := q_be h
          obtain ⟨v27, hv, h⟩ := h
          replace hv := q_aI_e hv
          obtain ⟨_, _, cv27, iv27, yv27⟩ := hv
          refine ⟨⟨some _, rfl⟩, _, _, cv25, dv25, _, _, cv27, iv27, _, yv27, ?_⟩
          refine rX11_clip rfl ?_
          replace h := q_be h
          obtain ⟨u28, hv, h⟩ := h
          replace hv := q_ob_e hv
          obtain ⟨_, cu28⟩ := hv
          replace h := q_be h
          obtain ⟨v29, hv, h⟩ := h
          refine ⟨by decide, ⟨some _, rfl⟩, ⟨_, cu28⟩, ?_⟩
          refine rX3_nearestColour hv ?_
          refine ⟨by decide, ?_⟩
          refine And.intro (fun hc30 => ?_) (fun hc30 => ?_)
          · replace h := q_ifp (hc30) h
            exact ps_weak (pjX3_reduce_204_20 h hh he) ⟨rfl, rfl, rfl, rfl, rfl, rfl, rfl, rfl, rfl, trivial⟩
          · replace h := q_ifn (hc30) h
            refine ⟨⟨some _, rfl⟩, ?_⟩
            refine rX11_red rfl ?_
            refine sX3_reduce_162 ?_
            replace h := q_be h
            obtain ⟨u34, hv, h⟩ := h
            replace hv := q_ob_e hv
            obtain ⟨_, cu34⟩ := hv
            replace h := q_be h
            obtain ⟨v35, hv, h⟩ := h
            refine ⟨⟨_, cu34⟩, ?_⟩
            refine rX3_spread hv ?_
            refine ⟨⟨some _, rfl⟩, ?_⟩
            refine rX11_green rfl ?_
            replace h := q_be h
            obtain ⟨u36, hv, h⟩ := h
            replace hv := q_ob_e hv
            obtain ⟨_, cu36⟩ := hv
            replace h := q_be h
            obtain ⟨v37, hv, h⟩ := h
            refine ⟨⟨_, cu36⟩, ?_⟩
            refine rX3_spread hv ?_
            refine ⟨⟨some _, rfl⟩, ?_⟩
            refine rX11_blue rfl ?_
            refine sX3_reduce_200 ?_
            replace h := q_be h
            obtain ⟨u38, hv, h⟩ := h
            replace hv := q_ob_e hv
            obtain ⟨_, cu38⟩ := hv
            replace h := q_be h
            obtain ⟨v39, hv, h⟩ := h
            refine ⟨⟨_, cu38⟩, ?_⟩
            refine rX3_spread hv ?_
            exact ps_weak (pjX3_reduce_204_20 h hh he) ⟨rfl, rfl, rfl, rfl, rfl, rfl, rfl, rfl, rfl, trivial⟩
noncomputable def bX3_reduce_11 (x0 : Nat) (x1 : Nat) (x2 : Int32) (x3 : Int32) (x4 : Int32) (x5 : Int32) (g : ps_G) : Option ((Int32 × ps_G) ⊕ (ps_G)) := if x3 ≤ x5 then (some (.inr g)) else (Option.bind (q_lp (fun s => bX3_reduce_20 x0 x1 x2 x3 x4 x5 s.1 s.2) ((0 : Int32), g)) fun s50 => some (.inl (x5 + (1 : Int32), s50)))
theorem pbX3_reduce_11 {d : Nat} {Q : ps_Rs → ps_G → Prop}  {x0 : Nat} {x1 : Nat} {x2 : Int32} {x3 : Int32} {x4 : Int32} {x5 : Int32} {g : ps_G} {x : (Int32 × ps_G) ⊕ (ps_G)} (h : bX3_reduce_11 x0 x1 x2 x3 x4 x5 g = some x) (hh : ∀ s' : Int32 × ps_G, x = .inl s' → ps_At mX3_reduce (d + 2) 11 [(0, .ref x0), (1, .ref x1), (2, .int x2), (3, .int x3), (4, .int x4), (5, .int s'.1)] [] s'.2 Q) (he : ∀ r' : ps_G, x = .inr r' → ps_At mX3_reduce (d + 2) 230 [] [] r' Q) : ps_At mX3_reduce (d + 2) 11 [(0, .ref x0), (1, .ref x1), (2, .int x2), (3, .int x3), (4, .int x4), (5, .int x5)] [] g Q := by
  unfold bX3_reduce_11 at h
  refine sX3_reduce_11 ?_
  refine And.intro (fun hc4 => ?_) (fun hc4 => ?_)
  · replace h := q_ifp (hc4) h
    exact ps_weak (he g (Option.some.inj h).symm) trivial
  · replace h := q_ifn (hc4) h
    refine ⟨by decide, ?_⟩
    replace h := q_be h
    obtain ⟨s50, hl, h⟩ := h
    refine ps_weak (q_lp_ok hl (fun s => ps_At mX3_reduce (d + 2) 20 [(0, .ref x0), (1, .ref x1), (2, .int x2), (3, .int x3), (4, .int x4), (5, .int x5), (6, .int s.1)] [] s.2 Q) (fun r => ps_At mX3_reduce (d + 2) 224 [(0, .ref x0), (1, .ref x1), (2, .int x2), (3, .int x3), (4, .int x4), (5, .int x5)] [] r Q) (fun s x hb hh he => pbX3_reduce_20 hb hh he) ?_) ⟨rfl, rfl, rfl, rfl, rfl, rfl, rfl, trivial⟩
    refine (?_ : ps_At mX3_reduce (d + 2) 224 [(0, .ref x0), (1, .ref x1), (2, .int x2), (3, .int x3), (4, .int x4), (5, .int x5)] [] s50 Q)
    refine sX3_reduce_224 ?_
    refine ⟨by decide, ?_⟩
    exact ps_weak (hh (x5 + (1 : Int32), s50) (Option.some.inj h).symm) ⟨rfl, rfl, rfl, rfl, rfl, rfl, trivial⟩
noncomputable def fX3_reduce (g : ps_G) (x0 : Nat) (x1 : Nat) (x2 : Int32) (x3 : Int32) (x4 : Int32) : Option (ps_G) := Option.bind (q_fR 3 11 g x0) fun v1 => Option.bind (v1) fun a2 => Option.bind (fJ7_fill_53178 g a2 (0 : Int32)) fun v3 => Option.bind (q_lp (fun s => bX3_reduce_11 x0 x1 x2 x3 x4 s.1 s.2) ((0 : Int32), v3)) fun s53 => some s53
theorem rX3_reduce {d : Nat} {Q : ps_Rs → ps_G → Prop} {g : ps_G} {x0 : Nat} {x1 : Nat} {x2 : Int32} {x3 : Int32} {x4 : Int32} {r : ps_G} (h : fX3_reduce g x0 x1 x2 x3 x4 = some r) (hk : Q (.inl none) r) : ps_Ok mX3_reduce (d + 2) [.ref x0, .ref x1, .int x2, .int x3, .int x4] g Q := by
  unfold fX3_reduce at h
  refine sX3_reduce_0 ?_
  replace h := q_be h
  obtain ⟨v1, hv, h⟩ := h
  replace hv := q_fR_e hv
  obtain ⟨_, cv1, dv1⟩ := hv
  replace h := q_be h
  obtain ⟨a2, ea2, h⟩ := h
  subst ea2
  replace h := q_be h
  obtain ⟨v3, hv, h⟩ := h
  refine ⟨⟨some _, rfl⟩, _, _, cv1, dv1, ?_⟩
  refine rJ7_fill_53178 hv ?_
  refine ⟨by decide, ?_⟩
  replace h := q_be h
  obtain ⟨s53, hl, h⟩ := h
  refine ps_weak (q_lp_ok hl (fun s => ps_At mX3_reduce (d + 2) 11 [(0, .ref x0), (1, .ref x1), (2, .int x2), (3, .int x3), (4, .int x4), (5, .int s.1)] [] s.2 Q) (fun r => ps_At mX3_reduce (d + 2) 230 [] [] r Q) (fun s x hb hh he => pbX3_reduce_11 hb hh he) ?_) ⟨rfl, rfl, rfl, rfl, rfl, rfl, trivial⟩
  refine (?_ : ps_At mX3_reduce (d + 2) 230 [] [] s53 Q)
  refine sX3_reduce_230 ?_
  cases h
  exact ⟨rfl, rfl, hk⟩
noncomputable def fX11_few (g : ps_G) (x0 : Nat) (x1 : Int32) (x2 : Int32) (x3 : Int32) : Option ((String ⊕ Int32) × ps_G) := q_tc (fX11_range g x2 (2 : Int32) (16 : Int32)) fun v1 g2 => Option.bind (q_ob 11 g2 x0) fun u3 => q_tc (fX11_knownPixels g2 x0 x1) fun v4 g5 => Option.bind (v4) fun a6 => Option.bind (q_fR 4 15 g5 a6) fun v7 => Option.bind (v7) fun a8 => Option.bind (q_cl g5 a8) fun g9 => Option.bind (q_fR 11 10 g9 x0) fun v10 => Option.bind (v10) fun a11 => Option.bind (q_fR 11 0 g9 x0) fun v12 => Option.bind (v12) fun a13 => Option.bind (q_fI 9 0 g9 a13) fun v14 => Option.bind (q_fR 11 0 g9 x0) fun v15 => Option.bind (v15) fun a16 => Option.bind (q_fI 9 1 g9 a16) fun v17 => Option.bind (q_ob 3 g9 a11) fun u18 => q_b2 (fX3_boxes g9 a11 g5.1 (v14 * v17) x2) fun v19 g20 => Option.bind (q_fR 11 10 g20 x0) fun v21 => Option.bind (v21) fun a22 => Option.bind (q_fR 11 0 g20 x0) fun v23 => Option.bind (v23) fun a24 => Option.bind (q_fI 9 0 g20 a24) fun v25 => Option.bind (q_fR 11 0 g20 x0) fun v26 => Option.bind (v26) fun a27 => Option.bind (q_fI 9 1 g20 a27) fun v28 => Option.bind (q_ob 3 g20 a22) fun u29 => Option.bind (fX3_reduce g20 a22 g5.1 v25 v28 x3) fun v30 => Option.bind (q_ob 11 v30 x0) fun u31 => Option.bind (fX11_replacePixels v30 x0 a6 g5.1) fun v32 => some (.inr v19, v32)
theorem rX11_few {d : Nat} {Q : ps_Rs → ps_G → Prop} {g : ps_G} {x0 : Nat} {x1 : Int32} {x2 : Int32} {x3 : Int32} {r : (String ⊕ Int32) × ps_G} (h : fX11_few g x0 x1 x2 x3 = some r) (hk : Q (q_rI r.1) r.2) : ps_Ok mX11_few (d + 8) [.ref x0, .int x1, .int x2, .int x3] g Q := by
  unfold fX11_few at h
  refine sX11_few_0 ?_
  replace h := q_tc_e h
  rcases h with ⟨E, g2, hv, rfl⟩ | ⟨v1, g2, hv, h⟩
  · exact rX11_range hv ⟨rfl, hk⟩
  refine rX11_range hv ?_
  replace h := q_be h
  obtain ⟨u3, hv, h⟩ := h
  replace hv := q_ob_e hv
  obtain ⟨_, cu3⟩ := hv
  refine ⟨⟨some _, rfl⟩, ⟨_, cu3⟩, ?_⟩
  replace h := q_tc_e h
  rcases h with ⟨E, g5, hv, rfl⟩ | ⟨v4, g5, hv, h⟩
  · exact rX11_knownPixels hv hk
  refine rX11_knownPixels hv ?_
  replace h := q_be h
  obtain ⟨a6, ea6, h⟩ := h
  subst ea6
  replace h := q_be h
  obtain ⟨v7, hv, h⟩ := h
  replace hv := q_fR_e hv
  obtain ⟨_, cv7, dv7⟩ := hv
  replace h := q_be h
  obtain ⟨a8, ea8, h⟩ := h
  subst ea8
  replace h := q_be h
  obtain ⟨g9, hv, h⟩ := h
  replace hv := q_cl_e hv
  obtain ⟨_, _, ag9, bg9, wg9, yg9⟩ := hv
  replace h := q_be h
  obtain ⟨v10, hv, h⟩ := h
  replace hv := q_fR_e hv
  obtain ⟨_, cv10, dv10⟩ := hv
  replace h := q_be h
  obtain ⟨a11, ea11, h⟩ := h
  subst ea11
  replace h := q_be h
  obtain ⟨v12, hv, h⟩ := h
  replace hv := q_fR_e hv
  obtain ⟨_, cv12, dv12⟩ := hv
  replace h := q_be h
  obtain ⟨a13, ea13, h⟩ := h
  subst ea13
  replace h := q_be h
  obtain ⟨v14, hv, h⟩ := h
  replace hv := q_fI_e hv
  obtain ⟨_, cv14, dv14⟩ := hv
  replace h := q_be h
  obtain ⟨v15, hv, h⟩ := h
  replace hv := q_fR_e hv
  obtain ⟨_, cv15, dv15⟩ := hv
  replace h := q_be h
  obtain ⟨a16, ea16, h⟩ := h
  subst ea16
  refine ⟨_, _, rfl, by decide, ⟨some _, rfl⟩, _, _, cv7, dv7, _, _, ag9, bg9, by decide, _, yg9, _, _, (by rw [← yg9]; exact if_pos rfl), wg9, some _, _, rfl, by decide, ⟨some _, rfl⟩, _, _, cv10, dv10, ⟨some _, rfl⟩, ⟨some _, rfl⟩, _, _, cv12, dv12, _, _, cv14, dv14, ⟨some _, rfl⟩, _, _, cv15, dv15, ?_⟩
  replace h := q_be h
  obtain ⟨v17, hv, h⟩ := h
  replace hv := q_fI_e hv
  obtain ⟨_, cv17, dv17⟩ := hv
  replace h := q_be h
  obtain ⟨u18, hv, h⟩ := h
  replace hv := q_ob_e hv
  obtain ⟨_, cu18⟩ := hv
  replace h := q_b2_e h
  obtain ⟨v19, g20, hv, h⟩ := h
  refine ⟨_, _, cv17, dv17, ⟨_, cu18⟩, ?_⟩
  refine rX3_boxes hv ?_
  refine sX11_few_52 ?_
  replace h := q_be h
  obtain ⟨v21, hv, h⟩ := h
  replace hv := q_fR_e hv
  obtain ⟨_, cv21, dv21⟩ := hv
  replace h := q_be h
  obtain ⟨a22, ea22, h⟩ := h
  subst ea22
  replace h := q_be h
  obtain ⟨v23, hv, h⟩ := h
  replace hv := q_fR_e hv
  obtain ⟨_, cv23, dv23⟩ := hv
  replace h := q_be h
  obtain ⟨a24, ea24, h⟩ := h
  subst ea24
  replace h := q_be h
  obtain ⟨v25, hv, h⟩ := h
  replace hv := q_fI_e hv
  obtain ⟨_, cv25, dv25⟩ := hv
  replace h := q_be h
  obtain ⟨v26, hv, h⟩ := h
  replace hv := q_fR_e hv
  obtain ⟨_, cv26, dv26⟩ := hv
  replace h := q_be h
  obtain ⟨a27, ea27, h⟩ := h
  subst ea27
  replace h := q_be h
  obtain ⟨v28, hv, h⟩ := h
  replace hv := q_fI_e hv
  obtain ⟨_, cv28, dv28⟩ := hv
  replace h := q_be h
  obtain ⟨u29, hv, h⟩ := h
  replace hv := q_ob_e hv
  obtain ⟨_, cu29⟩ := hv
  replace h := q_be h
  obtain ⟨v30, hv, h⟩ := h
  refine ⟨by decide, ⟨some _, rfl⟩, _, _, cv21, dv21, ⟨some _, rfl⟩, ⟨some _, rfl⟩, _, _, cv23, dv23, _, _, cv25, dv25, ⟨some _, rfl⟩, _, _, cv26, dv26, _, _, cv28, dv28, ⟨_, cu29⟩, ?_⟩
  refine rX3_reduce hv ?_
  replace h := q_be h
  obtain ⟨u31, hv, h⟩ := h
  replace hv := q_ob_e hv
  obtain ⟨_, cu31⟩ := hv
  replace h := q_be h
  obtain ⟨v32, hv, h⟩ := h
  refine ⟨⟨some _, rfl⟩, ⟨some _, rfl⟩, ⟨some _, rfl⟩, ⟨_, cu31⟩, ?_⟩
  refine rX11_replacePixels hv ?_
  cases h
  exact ⟨rfl, hk⟩
noncomputable def fX11_failInput (g : ps_G) (x0 : Nat) (x1 : Int32) (x2 : Int32) : Option ((String ⊕ Unit) × ps_G) := Option.bind (q_sI 11 15 g x0 x1) fun g1 => Option.bind (q_sI 11 16 g1 x0 x2) fun g2 => some (.inl "java/lang/UnsupportedOperationException", ps_nw g2 6 ps_e0)
theorem rX11_failInput {d : Nat} {Q : ps_Rs → ps_G → Prop} {g : ps_G} {x0 : Nat} {x1 : Int32} {x2 : Int32} {r : (String ⊕ Unit) × ps_G} (h : fX11_failInput g x0 x1 x2 = some r) (hk : Q (q_rV r.1) r.2) : ps_Ok mX11_failInput (d + 6) [.ref x0, .int x1, .int x2] g Q := by
  unfold fX11_failInput at h
  refine sX11_failInput_0 ?_
  replace h := q_be h
  obtain ⟨g1, hv, h⟩ := h
  replace hv := q_sI_e hv
  obtain ⟨_, cg1, dg1, yg1⟩ := hv
  replace h := q_be h
  obtain ⟨g2, hv, h⟩ := h
  replace hv := q_sI_e hv
  obtain ⟨_, cg2, dg2, yg2⟩ := hv
  refine ⟨⟨some _, rfl⟩, _, cg1, dg1, rfl, rfl, _, yg1, ⟨some _, rfl⟩, _, cg2, dg2, rfl, rfl, _, yg2, ?_⟩
  cases h
  exact sX11_failInput_10 (by decide) hk
def jX3_filterOf_35 (k0 : Int32) : Int32 := k0
theorem pjX3_filterOf_35 {d : Nat} {Q : ps_Rs → ps_G → Prop} {g : ps_G} {k0 : Int32} {r : Int32} (h : jX3_filterOf_35 k0 = r) (hk : Q (.inl (some (.int r))) g) : ps_At mX3_filterOf d 35 [] [.int k0] g Q := by
  unfold jX3_filterOf_35 at h
  refine sX3_filterOf_35 ?_
  subst h
  exact ⟨rfl, hk⟩
def jX3_filterOf_34  : Int32 := jX3_filterOf_35 (1 : Int32)
theorem pjX3_filterOf_34 {d : Nat} {Q : ps_Rs → ps_G → Prop} {g : ps_G}  {r : Int32} (h : jX3_filterOf_34  = r) (hk : Q (.inl (some (.int r))) g) : ps_At mX3_filterOf d 34 [] [] g Q := by
  unfold jX3_filterOf_34 at h
  refine sX3_filterOf_34 ?_
  exact ps_weak (pjX3_filterOf_35 h hk) trivial
def jX3_filterOf_16 (x0 : Int32) (x1 : Int32) : Int32 := if ¬ (x0 &&& (1 : Int32)) = (1 : Int32) then (jX3_filterOf_34) else (if ¬ (x1 &&& (1 : Int32)) = (1 : Int32) then (jX3_filterOf_34) else (jX3_filterOf_35 (2 : Int32)))
theorem pjX3_filterOf_16 {d : Nat} {Q : ps_Rs → ps_G → Prop} {g : ps_G} {x0 : Int32} {x1 : Int32} {r : Int32} (h : jX3_filterOf_16 x0 x1 = r) (hk : Q (.inl (some (.int r))) g) : ps_At mX3_filterOf d 16 [(0, .int x0), (1, .int x1)] [] g Q := by
  unfold jX3_filterOf_16 at h
  refine sX3_filterOf_16 ?_
  refine And.intro (fun hc2 => ?_) (fun hc2 => ?_)
  · replace h := q_ifp (hc2) h
    exact ps_weak (pjX3_filterOf_34 h hk) trivial
  · replace h := q_ifn (hc2) h
    refine And.intro (fun hc3 => ?_) (fun hc3 => ?_)
    · replace h := q_ifp (hc3) h
      exact ps_weak (pjX3_filterOf_34 h hk) trivial
    · replace h := q_ifn (hc3) h
      exact ps_weak (pjX3_filterOf_35 h hk) trivial
def fX3_filterOf (x0 : Int32) (x1 : Int32) : Int32 := if ¬ (x0 &&& (1 : Int32)) = 0 then (jX3_filterOf_16 x0 x1) else (if ¬ (x1 &&& (1 : Int32)) = 0 then (jX3_filterOf_16 x0 x1) else (jX3_filterOf_35 (0 : Int32)))
theorem rX3_filterOf {d : Nat} {Q : ps_Rs → ps_G → Prop} {g : ps_G} {x0 : Int32} {x1 : Int32} {r : Int32} (h : fX3_filterOf x0 x1 = r) (hk : Q (.inl (some (.int r))) g) : ps_Ok mX3_filterOf d [.int x0, .int x1] g Q := by
  unfold fX3_filterOf at h
  refine sX3_filterOf_0 ?_
  refine And.intro (fun hc1 => ?_) (fun hc1 => ?_)
  · replace h := q_ifp (hc1) h
    exact ps_weak (pjX3_filterOf_16 h hk) ⟨rfl, rfl, trivial⟩
  · replace h := q_ifn (hc1) h
    refine And.intro (fun hc8 => ?_) (fun hc8 => ?_)
    · replace h := q_ifp (hc8) h
      exact ps_weak (pjX3_filterOf_16 h hk) ⟨rfl, rfl, trivial⟩
    · replace h := q_ifn (hc8) h
      exact ps_weak (pjX3_filterOf_35 h hk) trivial
noncomputable def bX3_takeFrame_3 (x0 : Nat) (x1 : Nat) (x2 : Int32) (x3 : Int32) (x4 : Int32) (g : ps_G) : Option ((Int32 × ps_G) ⊕ ((ps_G) ⊕ (Int32 × ps_G))) := if ((x2 * x3) ≤ x4) ∨ ((576 : Int32) ≤ x4) then (some (.inr (.inl g))) else (Option.bind (q_len g x1) fun v3 => if v3 ≤ (((2 : Int32) * x4) + (1 : Int32)) then (some (.inr (.inl g))) else (Option.bind (q_aI g x1 ((2 : Int32) * x4)) fun v5 => Option.bind (q_aI g x1 (((2 : Int32) * x4) + (1 : Int32))) fun v6 => if ((v5 * (256 : Int32)) + v6) ≤ (4095 : Int32) then (Option.bind (q_fR 3 12 g x0) fun v8 => Option.bind (v8) fun a9 => Option.bind (q_fR 3 1 g x0) fun v10 => Option.bind (v10) fun a11 => Option.bind (q_aI g a11 (0 : Int32)) fun v12 => Option.bind (q_fR 3 1 g x0) fun v13 => Option.bind (v13) fun a14 => Option.bind (q_mod x4 x2) fun v15 => Option.bind (q_div x4 x2) fun v16 => Option.bind (q_aI g a14 ((1 : Int32) + (fX3_filterOf v15 v16))) fun v17 => Option.bind (q_wI g a9 x4 (fX11_within (((((v5 * (256 : Int32)) + v6) - v12) * v17) / (64 : Int32)) (0 : Int32) (4095 : Int32))) fun g18 => some (.inl (x4 + (1 : Int32), g18))) else (some (.inr (.inr ((2 : Int32) * x4, g))))))
theorem pbX3_takeFrame_3 {d : Nat} {Q : ps_Rs → ps_G → Prop}  {x0 : Nat} {x1 : Nat} {x2 : Int32} {x3 : Int32} {x4 : Int32} {g : ps_G} {x : (Int32 × ps_G) ⊕ ((ps_G) ⊕ (Int32 × ps_G))} (h : bX3_takeFrame_3 x0 x1 x2 x3 x4 g = some x) (hh : ∀ s' : Int32 × ps_G, x = .inl s' → ps_At mX3_takeFrame (d + 1) 3 [(0, .ref x0), (1, .ref x1), (2, .int x2), (3, .int x3), (4, .int s'.1)] [] s'.2 Q) (he : ∀ r' : ps_G, x = .inr (.inl r') → ps_At mX3_takeFrame (d + 1) 115 [] [] r' Q) (hr : ∀ v' : Int32 × ps_G, x = .inr (.inr v') → Q (.inl (some (.int v'.1))) v'.2) : ps_At mX3_takeFrame (d + 1) 3 [(0, .ref x0), (1, .ref x1), (2, .int x2), (3, .int x3), (4, .int x4)] [] g Q := by
  unfold bX3_takeFrame_3 at h
  refine sX3_takeFrame_3 ?_
  have kT23 : (some (.inr (.inl g))) = some x → ps_At mX3_takeFrame (d + 1) 115 [] [] g Q := fun h => by
    exact ps_weak (he g (Option.some.inj h).symm) trivial
  refine And.intro (fun hc1 => ?_) (fun hc1 => ?_)
  · exact ps_weak (kT23 (q_ifp (Or.inl hc1) h)) trivial
  · refine And.intro (fun hc2 => ?_) (fun hc2 => ?_)
    · exact ps_weak (kT23 (q_ifp (Or.inr (hc2)) h)) trivial
    · replace h := q_ifn (not_or.mpr ⟨hc1, hc2⟩) h
      replace h := q_be h
      obtain ⟨v3, hv, h⟩ := h
      replace hv := q_len_e hv
      obtain ⟨_, _, cv3, qv3, yv3⟩ := hv
      refine ⟨⟨some _, rfl⟩, _, _, cv3, qv3, _, yv3, ?_⟩
      refine And.intro (fun hc4 => ?_) (fun hc4 => ?_)
      · replace h := q_ifp (hc4) h
        exact ps_weak (he g (Option.some.inj h).symm) trivial
      · replace h := q_ifn (hc4) h
        replace h := q_be h
        obtain ⟨v5, hv, h⟩ := h
        replace hv := q_aI_e hv
        obtain ⟨_, _, cv5, iv5, yv5⟩ := hv
        replace h := q_be h
        obtain ⟨v6, hv, h⟩ := h
        replace hv := q_aI_e hv
        obtain ⟨_, _, cv6, iv6, yv6⟩ := hv
        refine ⟨⟨some _, rfl⟩, _, _, cv5, iv5, _, yv5, ⟨some _, rfl⟩, _, _, cv6, iv6, _, yv6, by decide, ?_⟩
        refine And.intro (fun hc7 => ?_) (fun hc7 => ?_)
        · replace h := q_ifp (hc7) h
          refine sX3_takeFrame_64 ?_
          replace h := q_be h
          obtain ⟨v8, hv, h⟩ := h
          replace hv := q_fR_e hv
          obtain ⟨_, cv8, dv8⟩ := hv
          replace h := q_be h
          obtain ⟨a9, ea9, h⟩ := h
          subst ea9
          replace h := q_be h
          obtain ⟨v10, hv, h⟩ := h
          replace hv := q_fR_e hv
          obtain ⟨_, cv10, dv10⟩ := hv
          replace h := q_be h
          obtain ⟨a11, ea11, h⟩ := h
          subst ea11
          replace h := q_be h
          obtain ⟨v12, hv, h⟩ := h
          replace hv := q_aI_e hv
          obtain ⟨_, _, cv12, iv12, yv12⟩ := hv
          replace h := q_be h
          obtain ⟨v13, hv, h⟩ := h
          replace hv := q_fR_e hv
          obtain ⟨_, cv13, dv13⟩ := hv
          replace h := q_be h
          obtain ⟨a14, ea14, h⟩ := h
          subst ea14
          replace h := q_be h
          obtain ⟨v15, hv, h⟩ := h
          replace hv := q_mod_e hv
          obtain ⟨zv15, yv15⟩ := hv
          replace h := q_be h
          obtain ⟨v16, hv, h⟩ := h
          replace hv := q_div_e hv
          obtain ⟨zv16, yv16⟩ := hv
          refine ⟨⟨some _, rfl⟩, _, _, cv8, dv8, ⟨some _, rfl⟩, _, _, cv10, dv10, _, _, cv12, iv12, _, yv12, ⟨some _, rfl⟩, _, _, cv13, dv13, zv15, _, yv15, zv16, _, yv16, ?_⟩
          refine rX3_filterOf rfl ?_
          replace h := q_be h
          obtain ⟨v17, hv, h⟩ := h
          replace hv := q_aI_e hv
          obtain ⟨_, _, cv17, iv17, yv17⟩ := hv
          refine ⟨_, _, cv17, iv17, _, yv17, by decide, _, rfl, ?_⟩
          refine rX11_within rfl ?_
          replace h := q_be h
          obtain ⟨g18, hv, h⟩ := h
          replace hv := q_wI_e hv
          obtain ⟨_, _, cg18, pg18, ig18, yg18⟩ := hv
          refine ⟨_, _, cg18, pg18, ig18, _, yg18, by decide, ?_⟩
          exact ps_weak (hh (x4 + (1 : Int32), g18) (Option.some.inj h).symm) ⟨rfl, rfl, rfl, rfl, rfl, trivial⟩
        · replace h := q_ifn (hc7) h
          exact ⟨rfl, hr ((2 : Int32) * x4, g) (Option.some.inj h).symm⟩
noncomputable def jX3_takeFrame_115 (g : ps_G) : Option (Int32 × ps_G) := some ((-1 : Int32), g)
theorem pjX3_takeFrame_115 {d : Nat} {Q : ps_Rs → ps_G → Prop} {g : ps_G}  {r : Int32 × ps_G} (h : jX3_takeFrame_115 g = some r) (hk : Q (.inl (some (.int r.1))) r.2) : ps_At mX3_takeFrame (d + 1) 115 [] [] g Q := by
  unfold jX3_takeFrame_115 at h
  refine sX3_takeFrame_115 ?_
  cases h
  exact ⟨rfl, hk⟩
noncomputable def fX3_takeFrame (g : ps_G) (x0 : Nat) (x1 : Nat) (x2 : Int32) (x3 : Int32) : Option (Int32 × ps_G) := Option.bind (q_lp (fun s => bX3_takeFrame_3 x0 x1 x2 x3 s.1 s.2) ((0 : Int32), g)) fun s25 => Sum.elim (fun r26 => jX3_takeFrame_115 r26) (fun v27 => some v27) s25
theorem rX3_takeFrame {d : Nat} {Q : ps_Rs → ps_G → Prop} {g : ps_G} {x0 : Nat} {x1 : Nat} {x2 : Int32} {x3 : Int32} {r : Int32 × ps_G} (h : fX3_takeFrame g x0 x1 x2 x3 = some r) (hk : Q (.inl (some (.int r.1))) r.2) : ps_Ok mX3_takeFrame (d + 1) [.ref x0, .ref x1, .int x2, .int x3] g Q := by
  unfold fX3_takeFrame at h
  refine sX3_takeFrame_0 ?_
  refine ⟨by decide, ?_⟩
  replace h := q_be h
  obtain ⟨s25, hl, h⟩ := h
  refine ps_weak (q_lp_ok hl (fun s => ps_At mX3_takeFrame (d + 1) 3 [(0, .ref x0), (1, .ref x1), (2, .int x2), (3, .int x3), (4, .int s.1)] [] s.2 Q) (Sum.elim (fun r => ps_At mX3_takeFrame (d + 1) 115 [] [] r Q) (fun v => Q (.inl (some (.int v.1))) v.2)) (fun s x hb hh he => pbX3_takeFrame_3 hb hh (fun _ e => he _ e) (fun _ e => he _ e)) ?_) ⟨rfl, rfl, rfl, rfl, rfl, trivial⟩
  rcases s25 with r26 | v27
  · refine (?_ : ps_At mX3_takeFrame (d + 1) 115 [] [] r26 Q)
    exact ps_weak (pjX3_takeFrame_115 h hk) trivial
  · cases h
    exact hk
noncomputable def jX3_lightAt_106_60 (g : ps_G) (x0 : Nat) (x1 : Int32) (x2 : Int32) (x3 : Int32) (x4 : Int32) (x5 : Int32) (x6 : Int32) (x7 : Int32) (x8 : Int32) (x9 : Int32) : Option ((Int32 × Int32 × Int32) ⊕ (Int32 × Int32)) := some (.inl (x6, x7, x9 + (1 : Int32)))
theorem pjX3_lightAt_106_60 {d : Nat} {Q : ps_Rs → ps_G → Prop} {g : ps_G} {x0 : Nat} {x1 : Int32} {x2 : Int32} {x3 : Int32} {x4 : Int32} {x5 : Int32} {x6 : Int32} {x7 : Int32} {x8 : Int32} {x9 : Int32} {x : (Int32 × Int32 × Int32) ⊕ (Int32 × Int32)} (h : jX3_lightAt_106_60 g x0 x1 x2 x3 x4 x5 x6 x7 x8 x9 = some x) (hh : ∀ s' : Int32 × Int32 × Int32, x = .inl s' → ps_At mX3_lightAt (d + 1) 60 [(0, .ref x0), (1, .int x1), (2, .int x2), (3, .int x3), (4, .int x4), (5, .int x5), (6, .int s'.1), (7, .int s'.2.1), (8, .int x8), (9, .int s'.2.2)] [] g Q) (he : ∀ r' : Int32 × Int32, x = .inr r' → ps_At mX3_lightAt (d + 1) 112 [(0, .ref x0), (1, .int x1), (2, .int x2), (3, .int x3), (4, .int x4), (5, .int x5), (6, .int r'.1), (7, .int r'.2), (8, .int x8)] [] g Q) : ps_At mX3_lightAt (d + 1) 106 [(0, .ref x0), (1, .int x1), (2, .int x2), (3, .int x3), (4, .int x4), (5, .int x5), (6, .int x6), (7, .int x7), (8, .int x8), (9, .int x9)] [] g Q := by
  unfold jX3_lightAt_106_60 at h
  refine sX3_lightAt_106 ?_
  refine ⟨by decide, ?_⟩
  exact ps_weak (hh (x6, x7, x9 + (1 : Int32)) (Option.some.inj h).symm) ⟨rfl, rfl, rfl, rfl, rfl, rfl, rfl, rfl, rfl, rfl, trivial⟩
noncomputable def bX3_lightAt_60 (g : ps_G) (x0 : Nat) (x1 : Int32) (x2 : Int32) (x3 : Int32) (x4 : Int32) (x5 : Int32) (x8 : Int32) (x6 : Int32) (x7 : Int32) (x9 : Int32) : Option ((Int32 × Int32 × Int32) ⊕ (Int32 × Int32)) := if ((x1 + (1 : Int32)) < x9) ∨ (x3 ≤ x9) then (some (.inr (x6, x7))) else (if ¬ (fX3_filterOf x9 x8) = x5 then (jX3_lightAt_106_60 g x0 x1 x2 x3 x4 x5 x6 x7 x8 x9) else (Option.bind (q_fR 3 12 g x0) fun v10 => Option.bind (v10) fun a11 => Option.bind (q_aI g a11 ((x8 * x3) + x9)) fun v12 => jX3_lightAt_106_60 g x0 x1 x2 x3 x4 x5 (x6 + (1 : Int32)) (x7 + v12) x8 x9))
theorem pbX3_lightAt_60 {d : Nat} {Q : ps_Rs → ps_G → Prop} {g : ps_G} {x0 : Nat} {x1 : Int32} {x2 : Int32} {x3 : Int32} {x4 : Int32} {x5 : Int32} {x8 : Int32} {x6 : Int32} {x7 : Int32} {x9 : Int32} {x : (Int32 × Int32 × Int32) ⊕ (Int32 × Int32)} (h : bX3_lightAt_60 g x0 x1 x2 x3 x4 x5 x8 x6 x7 x9 = some x) (hh : ∀ s' : Int32 × Int32 × Int32, x = .inl s' → ps_At mX3_lightAt (d + 1) 60 [(0, .ref x0), (1, .int x1), (2, .int x2), (3, .int x3), (4, .int x4), (5, .int x5), (6, .int s'.1), (7, .int s'.2.1), (8, .int x8), (9, .int s'.2.2)] [] g Q) (he : ∀ r' : Int32 × Int32, x = .inr r' → ps_At mX3_lightAt (d + 1) 112 [(0, .ref x0), (1, .int x1), (2, .int x2), (3, .int x3), (4, .int x4), (5, .int x5), (6, .int r'.1), (7, .int r'.2), (8, .int x8)] [] g Q) : ps_At mX3_lightAt (d + 1) 60 [(0, .ref x0), (1, .int x1), (2, .int x2), (3, .int x3), (4, .int x4), (5, .int x5), (6, .int x6), (7, .int x7), (8, .int x8), (9, .int x9)] [] g Q := by
  unfold bX3_lightAt_60 at h
  refine sX3_lightAt_60 ?_
  have kT15 : (some (.inr (x6, x7))) = some x → ps_At mX3_lightAt (d + 1) 112 [(0, .ref x0), (1, .int x1), (2, .int x2), (3, .int x3), (4, .int x4), (5, .int x5), (6, .int x6), (7, .int x7), (8, .int x8)] [] g Q := fun h => by
    exact ps_weak (he (x6, x7) (Option.some.inj h).symm) ⟨rfl, rfl, rfl, rfl, rfl, rfl, rfl, rfl, rfl, trivial⟩
  refine And.intro (fun hc4 => ?_) (fun hc4 => ?_)
  · exact ps_weak (kT15 (q_ifp (Or.inl hc4) h)) ⟨rfl, rfl, rfl, rfl, rfl, rfl, rfl, rfl, rfl, trivial⟩
  · refine And.intro (fun hc5 => ?_) (fun hc5 => ?_)
    · exact ps_weak (kT15 (q_ifp (Or.inr (hc5)) h)) ⟨rfl, rfl, rfl, rfl, rfl, rfl, rfl, rfl, rfl, trivial⟩
    · replace h := q_ifn (not_or.mpr ⟨hc4, hc5⟩) h
      refine rX3_filterOf rfl ?_
      refine And.intro (fun hc8 => ?_) (fun hc8 => ?_)
      · replace h := q_ifp (hc8) h
        exact ps_weak (pjX3_lightAt_106_60 h hh he) ⟨rfl, rfl, rfl, rfl, rfl, rfl, rfl, rfl, rfl, rfl, trivial⟩
      · replace h := q_ifn (hc8) h
        replace h := q_be h
        obtain ⟨v10, hv, h⟩ := h
        replace hv := q_fR_e hv
        obtain ⟨_, cv10, dv10⟩ := hv
        replace h := q_be h
        obtain ⟨a11, ea11, h⟩ := h
        subst ea11
        replace h := q_be h
        obtain ⟨v12, hv, h⟩ := h
        replace hv := q_aI_e hv
        obtain ⟨_, _, cv12, iv12, yv12⟩ := hv
        refine ⟨by decide, ⟨some _, rfl⟩, _, _, cv10, dv10, _, _, cv12, iv12, _, yv12, by decide, ?_⟩
        exact ps_weak (pjX3_lightAt_106_60 h hh he) ⟨rfl, rfl, rfl, rfl, rfl, rfl, rfl, rfl, rfl, rfl, trivial⟩
noncomputable def jX3_lightAt_112_36 (g : ps_G) (x0 : Nat) (x1 : Int32) (x2 : Int32) (x3 : Int32) (x4 : Int32) (x5 : Int32) (x6 : Int32) (x7 : Int32) (x8 : Int32) : Option ((Int32 × Int32 × Int32) ⊕ (Int32 × Int32)) := some (.inl (x6, x7, x8 + (1 : Int32)))
theorem pjX3_lightAt_112_36 {d : Nat} {Q : ps_Rs → ps_G → Prop} {g : ps_G} {x0 : Nat} {x1 : Int32} {x2 : Int32} {x3 : Int32} {x4 : Int32} {x5 : Int32} {x6 : Int32} {x7 : Int32} {x8 : Int32} {x : (Int32 × Int32 × Int32) ⊕ (Int32 × Int32)} (h : jX3_lightAt_112_36 g x0 x1 x2 x3 x4 x5 x6 x7 x8 = some x) (hh : ∀ s' : Int32 × Int32 × Int32, x = .inl s' → ps_At mX3_lightAt (d + 1) 36 [(0, .ref x0), (1, .int x1), (2, .int x2), (3, .int x3), (4, .int x4), (5, .int x5), (6, .int s'.1), (7, .int s'.2.1), (8, .int s'.2.2)] [] g Q) (he : ∀ r' : Int32 × Int32, x = .inr r' → ps_At mX3_lightAt (d + 1) 118 [(6, .int r'.1), (7, .int r'.2)] [] g Q) : ps_At mX3_lightAt (d + 1) 112 [(0, .ref x0), (1, .int x1), (2, .int x2), (3, .int x3), (4, .int x4), (5, .int x5), (6, .int x6), (7, .int x7), (8, .int x8)] [] g Q := by
  unfold jX3_lightAt_112_36 at h
  refine sX3_lightAt_112 ?_
  refine ⟨by decide, ?_⟩
  exact ps_weak (hh (x6, x7, x8 + (1 : Int32)) (Option.some.inj h).symm) ⟨rfl, rfl, rfl, rfl, rfl, rfl, rfl, rfl, rfl, trivial⟩
noncomputable def bX3_lightAt_36 (g : ps_G) (x0 : Nat) (x1 : Int32) (x2 : Int32) (x3 : Int32) (x4 : Int32) (x5 : Int32) (x6 : Int32) (x7 : Int32) (x8 : Int32) : Option ((Int32 × Int32 × Int32) ⊕ (Int32 × Int32)) := if ((x2 + (1 : Int32)) < x8) ∨ (x4 ≤ x8) then (some (.inr (x6, x7))) else (Option.bind (q_lp (fun s => bX3_lightAt_60 g x0 x1 x2 x3 x4 x5 x8 s.1 s.2.1 s.2.2) (x6, x7, fJ9_max_7cf53 (0 : Int32) (x1 - (1 : Int32)))) fun s17 => jX3_lightAt_112_36 g x0 x1 x2 x3 x4 x5 s17.1 s17.2 x8)
theorem pbX3_lightAt_36 {d : Nat} {Q : ps_Rs → ps_G → Prop} {g : ps_G} {x0 : Nat} {x1 : Int32} {x2 : Int32} {x3 : Int32} {x4 : Int32} {x5 : Int32} {x6 : Int32} {x7 : Int32} {x8 : Int32} {x : (Int32 × Int32 × Int32) ⊕ (Int32 × Int32)} (h : bX3_lightAt_36 g x0 x1 x2 x3 x4 x5 x6 x7 x8 = some x) (hh : ∀ s' : Int32 × Int32 × Int32, x = .inl s' → ps_At mX3_lightAt (d + 1) 36 [(0, .ref x0), (1, .int x1), (2, .int x2), (3, .int x3), (4, .int x4), (5, .int x5), (6, .int s'.1), (7, .int s'.2.1), (8, .int s'.2.2)] [] g Q) (he : ∀ r' : Int32 × Int32, x = .inr r' → ps_At mX3_lightAt (d + 1) 118 [(6, .int r'.1), (7, .int r'.2)] [] g Q) : ps_At mX3_lightAt (d + 1) 36 [(0, .ref x0), (1, .int x1), (2, .int x2), (3, .int x3), (4, .int x4), (5, .int x5), (6, .int x6), (7, .int x7), (8, .int x8)] [] g Q := by
  unfold bX3_lightAt_36 at h
  refine sX3_lightAt_36 ?_
  have kT18 : (some (.inr (x6, x7))) = some x → ps_At mX3_lightAt (d + 1) 118 [(6, .int x6), (7, .int x7)] [] g Q := fun h => by
    exact ps_weak (he (x6, x7) (Option.some.inj h).symm) ⟨rfl, rfl, trivial⟩
  refine And.intro (fun hc2 => ?_) (fun hc2 => ?_)
  · exact ps_weak (kT18 (q_ifp (Or.inl hc2) h)) ⟨rfl, rfl, trivial⟩
  · refine And.intro (fun hc3 => ?_) (fun hc3 => ?_)
    · exact ps_weak (kT18 (q_ifp (Or.inr (hc3)) h)) ⟨rfl, rfl, trivial⟩
    · replace h := q_ifn (not_or.mpr ⟨hc2, hc3⟩) h
      refine rJ9_max_7cf53 rfl ?_
      refine ⟨by decide, ?_⟩
      replace h := q_be h
      obtain ⟨s17, hl, h⟩ := h
      refine ps_weak (q_lp_ok hl (fun s => ps_At mX3_lightAt (d + 1) 60 [(0, .ref x0), (1, .int x1), (2, .int x2), (3, .int x3), (4, .int x4), (5, .int x5), (6, .int s.1), (7, .int s.2.1), (8, .int x8), (9, .int s.2.2)] [] g Q) (fun r => ps_At mX3_lightAt (d + 1) 112 [(0, .ref x0), (1, .int x1), (2, .int x2), (3, .int x3), (4, .int x4), (5, .int x5), (6, .int r.1), (7, .int r.2), (8, .int x8)] [] g Q) (fun s x hb hh he => pbX3_lightAt_60 hb hh he) ?_) ⟨rfl, rfl, rfl, rfl, rfl, rfl, rfl, rfl, rfl, rfl, trivial⟩
      refine (?_ : ps_At mX3_lightAt (d + 1) 112 [(0, .ref x0), (1, .int x1), (2, .int x2), (3, .int x3), (4, .int x4), (5, .int x5), (6, .int s17.1), (7, .int s17.2), (8, .int x8)] [] g Q)
      exact ps_weak (pjX3_lightAt_112_36 h hh he) ⟨rfl, rfl, rfl, rfl, rfl, rfl, rfl, rfl, rfl, trivial⟩
noncomputable def jX3_lightAt_137 (g : ps_G) (k0 : Int32) : Option (Int32) := some k0
theorem pjX3_lightAt_137 {d : Nat} {Q : ps_Rs → ps_G → Prop} {g : ps_G} {k0 : Int32} {r : Int32} (h : jX3_lightAt_137 g k0 = some r) (hk : Q (.inl (some (.int r))) g) : ps_At mX3_lightAt (d + 1) 137 [] [.int k0] g Q := by
  unfold jX3_lightAt_137 at h
  refine sX3_lightAt_137 ?_
  cases h
  exact ⟨rfl, hk⟩
noncomputable def jX3_lightAt_118 (g : ps_G) (x6 : Int32) (x7 : Int32) : Option (Int32) := if x6 ≤ 0 then (jX3_lightAt_137 g (0 : Int32)) else (Option.bind (q_div (x7 + (x6 / (2 : Int32))) x6) fun v23 => jX3_lightAt_137 g v23)
theorem pjX3_lightAt_118 {d : Nat} {Q : ps_Rs → ps_G → Prop} {g : ps_G} {x6 : Int32} {x7 : Int32} {r : Int32} (h : jX3_lightAt_118 g x6 x7 = some r) (hk : Q (.inl (some (.int r))) g) : ps_At mX3_lightAt (d + 1) 118 [(6, .int x6), (7, .int x7)] [] g Q := by
  unfold jX3_lightAt_118 at h
  refine sX3_lightAt_118 ?_
  refine And.intro (fun hc21 => ?_) (fun hc21 => ?_)
  · replace h := q_ifp (hc21) h
    refine sX3_lightAt_136 ?_
    exact ps_weak (pjX3_lightAt_137 h hk) trivial
  · replace h := q_ifn (hc21) h
    replace h := q_be h
    obtain ⟨v23, hv, h⟩ := h
    replace hv := q_div_e hv
    obtain ⟨zv23, yv23⟩ := hv
    refine ⟨by decide, _, rfl, zv23, _, yv23, ?_⟩
    exact ps_weak (pjX3_lightAt_137 h hk) trivial
noncomputable def fX3_lightAt (g : ps_G) (x0 : Nat) (x1 : Int32) (x2 : Int32) (x3 : Int32) (x4 : Int32) (x5 : Int32) : Option (Int32) := if ¬ (fX3_filterOf x1 x2) = x5 then (Option.bind (q_lp (fun s => bX3_lightAt_36 g x0 x1 x2 x3 x4 x5 s.1 s.2.1 s.2.2) ((0 : Int32), (0 : Int32), fJ9_max_7cf53 (0 : Int32) (x2 - (1 : Int32)))) fun s20 => jX3_lightAt_118 g s20.1 s20.2) else (Option.bind (q_fR 3 12 g x0) fun v26 => Option.bind (v26) fun a27 => Option.bind (q_aI g a27 ((x2 * x3) + x1)) fun v28 => some v28)
theorem rX3_lightAt {d : Nat} {Q : ps_Rs → ps_G → Prop} {g : ps_G} {x0 : Nat} {x1 : Int32} {x2 : Int32} {x3 : Int32} {x4 : Int32} {x5 : Int32} {r : Int32} (h : fX3_lightAt g x0 x1 x2 x3 x4 x5 = some r) (hk : Q (.inl (some (.int r))) g) : ps_Ok mX3_lightAt (d + 1) [.ref x0, .int x1, .int x2, .int x3, .int x4, .int x5] g Q := by
  unfold fX3_lightAt at h
  refine sX3_lightAt_0 ?_
  refine rX3_filterOf rfl ?_
  refine And.intro (fun hc1 => ?_) (fun hc1 => ?_)
  · replace h := q_ifp (hc1) h
    refine sX3_lightAt_21 ?_
    refine ⟨by decide, by decide, ?_⟩
    refine rJ9_max_7cf53 rfl ?_
    refine ⟨by decide, ?_⟩
    replace h := q_be h
    obtain ⟨s20, hl, h⟩ := h
    refine ps_weak (q_lp_ok hl (fun s => ps_At mX3_lightAt (d + 1) 36 [(0, .ref x0), (1, .int x1), (2, .int x2), (3, .int x3), (4, .int x4), (5, .int x5), (6, .int s.1), (7, .int s.2.1), (8, .int s.2.2)] [] g Q) (fun r => ps_At mX3_lightAt (d + 1) 118 [(6, .int r.1), (7, .int r.2)] [] g Q) (fun s x hb hh he => pbX3_lightAt_36 hb hh he) ?_) ⟨rfl, rfl, rfl, rfl, rfl, rfl, rfl, rfl, rfl, trivial⟩
    refine (?_ : ps_At mX3_lightAt (d + 1) 118 [(6, .int s20.1), (7, .int s20.2)] [] g Q)
    exact ps_weak (pjX3_lightAt_118 h hk) ⟨rfl, rfl, trivial⟩
  · replace h := q_ifn (hc1) h
    replace h := q_be h
    obtain ⟨v26, hv, h⟩ := h
    replace hv := q_fR_e hv
    obtain ⟨_, cv26, dv26⟩ := hv
    replace h := q_be h
    obtain ⟨a27, ea27, h⟩ := h
    subst ea27
    replace h := q_be h
    obtain ⟨v28, hv, h⟩ := h
    replace hv := q_aI_e hv
    obtain ⟨_, _, cv28, iv28, yv28⟩ := hv
    cases h
    exact ⟨⟨some _, rfl⟩, _, _, cv26, dv26, _, _, cv28, iv28, _, yv28, rfl, hk⟩
noncomputable def jX3_unfold_83_12 (g : ps_G) (x0 : Nat) (x1 : Nat) (x2 : Int32) (x3 : Int32) (x4 : Int32) (x5 : Int32) : Option ((Int32 × ps_G) ⊕ (ps_G)) := some (.inl (x5 + (1 : Int32), g))
theorem pjX3_unfold_83_12 {d : Nat} {Q : ps_Rs → ps_G → Prop} {g : ps_G} {x0 : Nat} {x1 : Nat} {x2 : Int32} {x3 : Int32} {x4 : Int32} {x5 : Int32} {x : (Int32 × ps_G) ⊕ (ps_G)} (h : jX3_unfold_83_12 g x0 x1 x2 x3 x4 x5 = some x) (hh : ∀ s' : Int32 × ps_G, x = .inl s' → ps_At mX3_unfold (d + 2) 12 [(0, .ref x0), (1, .ref x1), (2, .int x2), (3, .int x3), (4, .int x4), (5, .int s'.1)] [] s'.2 Q) (he : ∀ r' : ps_G, x = .inr r' → ps_At mX3_unfold (d + 2) 89 [(0, .ref x0), (1, .ref x1), (2, .int x2), (3, .int x3), (4, .int x4)] [] r' Q) : ps_At mX3_unfold (d + 2) 83 [(0, .ref x0), (1, .ref x1), (2, .int x2), (3, .int x3), (4, .int x4), (5, .int x5)] [] g Q := by
  unfold jX3_unfold_83_12 at h
  refine sX3_unfold_83 ?_
  refine ⟨by decide, ?_⟩
  exact ps_weak (hh (x5 + (1 : Int32), g) (Option.some.inj h).symm) ⟨rfl, rfl, rfl, rfl, rfl, rfl, trivial⟩
noncomputable def bX3_unfold_12 (x0 : Nat) (x1 : Nat) (x2 : Int32) (x3 : Int32) (x4 : Int32) (x5 : Int32) (g : ps_G) : Option ((Int32 × ps_G) ⊕ (ps_G)) := if x2 ≤ x5 then (some (.inr g)) else (Option.bind (q_len g x1) fun v4 => if v4 ≤ ((x4 * x2) + x5) then (jX3_unfold_83_12 g x0 x1 x2 x3 x4 x5) else (Option.bind (q_ob 3 g x0) fun u7 => Option.bind (fX3_lightAt g x0 x5 x4 x2 x3 (0 : Int32)) fun v8 => Option.bind (q_ob 3 g x0) fun u9 => Option.bind (fX3_lightAt g x0 x5 x4 x2 x3 (1 : Int32)) fun v10 => Option.bind (q_ob 3 g x0) fun u11 => Option.bind (fX3_lightAt g x0 x5 x4 x2 x3 (2 : Int32)) fun v12 => Option.bind (q_wI g x1 ((x4 * x2) + x5) (fX11_pack (255 : Int32) (q_shr v8 (4 : Int32)) (q_shr v10 (4 : Int32)) (q_shr v12 (4 : Int32)))) fun g13 => jX3_unfold_83_12 g13 x0 x1 x2 x3 x4 x5))
theorem pbX3_unfold_12 {d : Nat} {Q : ps_Rs → ps_G → Prop}  {x0 : Nat} {x1 : Nat} {x2 : Int32} {x3 : Int32} {x4 : Int32} {x5 : Int32} {g : ps_G} {x : (Int32 × ps_G) ⊕ (ps_G)} (h : bX3_unfold_12 x0 x1 x2 x3 x4 x5 g = some x) (hh : ∀ s' : Int32 × ps_G, x = .inl s' → ps_At mX3_unfold (d + 2) 12 [(0, .ref x0), (1, .ref x1), (2, .int x2), (3, .int x3), (4, .int x4), (5, .int s'.1)] [] s'.2 Q) (he : ∀ r' : ps_G, x = .inr r' → ps_At mX3_unfold (d + 2) 89 [(0, .ref x0), (1, .ref x1), (2, .int x2), (3, .int x3), (4, .int x4)] [] r' Q) : ps_At mX3_unfold (d + 2) 12 [(0, .ref x0), (1, .ref x1), (2, .int x2), (3, .int x3), (4, .int x4), (5, .int x5)] [] g Q := by
  unfold bX3_unfold_12 at h
  refine sX3_unfold_12 ?_
  refine And.intro (fun hc2 => ?_) (fun hc2 => ?_)
  · replace h := q_ifp (hc2) h
    exact ps_weak (he g (Option.some.inj h).symm) ⟨rfl, rfl, rfl, rfl, rfl, trivial⟩
  · replace h := q_ifn (hc2) h
    replace h := q_be h
    obtain ⟨v4, hv, h⟩ := h
    replace hv := q_len_e hv
    obtain ⟨_, _, cv4, qv4, yv4⟩ := hv
    refine ⟨by decide, ⟨some _, rfl⟩, _, _, cv4, qv4, _, yv4, ?_⟩
    refine And.intro (fun hc5 => ?_) (fun hc5 => ?_)
    · replace h := q_ifp (hc5) h
      exact ps_weak (pjX3_unfold_83_12 h hh he) ⟨rfl, rfl, rfl, rfl, rfl, rfl, trivial⟩
    · replace h := q_ifn (hc5) h
      replace h := q_be h
      obtain ⟨u7, hv, h⟩ := h
      replace hv := q_ob_e hv
      obtain ⟨_, cu7⟩ := hv
      replace h := q_be h
      obtain ⟨v8, hv, h⟩ := h
      refine ⟨⟨some _, rfl⟩, ⟨some _, rfl⟩, ⟨_, cu7⟩, ?_⟩
      refine rX3_lightAt hv ?_
      replace h := q_be h
      obtain ⟨u9, hv, h⟩ := h
      replace hv := q_ob_e hv
      obtain ⟨_, cu9⟩ := hv
      replace h := q_be h
      obtain ⟨v10, hv, h⟩ := h
      refine ⟨⟨some _, rfl⟩, ⟨_, cu9⟩, ?_⟩
      refine rX3_lightAt hv ?_
      replace h := q_be h
      obtain ⟨u11, hv, h⟩ := h
      replace hv := q_ob_e hv
      obtain ⟨_, cu11⟩ := hv
      replace h := q_be h
      obtain ⟨v12, hv, h⟩ := h
      refine ⟨⟨some _, rfl⟩, ⟨_, cu11⟩, ?_⟩
      refine rX3_lightAt hv ?_
      refine rX11_pack rfl ?_
      refine sX3_unfold_82 ?_
      replace h := q_be h
      obtain ⟨g13, hv, h⟩ := h
      replace hv := q_wI_e hv
      obtain ⟨_, _, cg13, pg13, ig13, yg13⟩ := hv
      refine ⟨_, _, cg13, pg13, ig13, _, yg13, ?_⟩
      exact ps_weak (pjX3_unfold_83_12 h hh he) ⟨rfl, rfl, rfl, rfl, rfl, rfl, trivial⟩
noncomputable def bX3_unfold_3 (x0 : Nat) (x1 : Nat) (x2 : Int32) (x3 : Int32) (x4 : Int32) (g : ps_G) : Option ((Int32 × ps_G) ⊕ (ps_G)) := if x3 ≤ x4 then (some (.inr g)) else (Option.bind (q_lp (fun s => bX3_unfold_12 x0 x1 x2 x3 x4 s.1 s.2) ((0 : Int32), g)) fun s18 => some (.inl (x4 + (1 : Int32), s18)))
theorem pbX3_unfold_3 {d : Nat} {Q : ps_Rs → ps_G → Prop}  {x0 : Nat} {x1 : Nat} {x2 : Int32} {x3 : Int32} {x4 : Int32} {g : ps_G} {x : (Int32 × ps_G) ⊕ (ps_G)} (h : bX3_unfold_3 x0 x1 x2 x3 x4 g = some x) (hh : ∀ s' : Int32 × ps_G, x = .inl s' → ps_At mX3_unfold (d + 2) 3 [(0, .ref x0), (1, .ref x1), (2, .int x2), (3, .int x3), (4, .int s'.1)] [] s'.2 Q) (he : ∀ r' : ps_G, x = .inr r' → ps_At mX3_unfold (d + 2) 95 [] [] r' Q) : ps_At mX3_unfold (d + 2) 3 [(0, .ref x0), (1, .ref x1), (2, .int x2), (3, .int x3), (4, .int x4)] [] g Q := by
  unfold bX3_unfold_3 at h
  refine sX3_unfold_3 ?_
  refine And.intro (fun hc1 => ?_) (fun hc1 => ?_)
  · replace h := q_ifp (hc1) h
    exact ps_weak (he g (Option.some.inj h).symm) trivial
  · replace h := q_ifn (hc1) h
    refine ⟨by decide, ?_⟩
    replace h := q_be h
    obtain ⟨s18, hl, h⟩ := h
    refine ps_weak (q_lp_ok hl (fun s => ps_At mX3_unfold (d + 2) 12 [(0, .ref x0), (1, .ref x1), (2, .int x2), (3, .int x3), (4, .int x4), (5, .int s.1)] [] s.2 Q) (fun r => ps_At mX3_unfold (d + 2) 89 [(0, .ref x0), (1, .ref x1), (2, .int x2), (3, .int x3), (4, .int x4)] [] r Q) (fun s x hb hh he => pbX3_unfold_12 hb hh he) ?_) ⟨rfl, rfl, rfl, rfl, rfl, rfl, trivial⟩
    refine (?_ : ps_At mX3_unfold (d + 2) 89 [(0, .ref x0), (1, .ref x1), (2, .int x2), (3, .int x3), (4, .int x4)] [] s18 Q)
    refine sX3_unfold_89 ?_
    refine ⟨by decide, ?_⟩
    exact ps_weak (hh (x4 + (1 : Int32), s18) (Option.some.inj h).symm) ⟨rfl, rfl, rfl, rfl, rfl, trivial⟩
noncomputable def fX3_unfold (g : ps_G) (x0 : Nat) (x1 : Nat) (x2 : Int32) (x3 : Int32) : Option (ps_G) := Option.bind (q_lp (fun s => bX3_unfold_3 x0 x1 x2 x3 s.1 s.2) ((0 : Int32), g)) fun s21 => some s21
theorem rX3_unfold {d : Nat} {Q : ps_Rs → ps_G → Prop} {g : ps_G} {x0 : Nat} {x1 : Nat} {x2 : Int32} {x3 : Int32} {r : ps_G} (h : fX3_unfold g x0 x1 x2 x3 = some r) (hk : Q (.inl none) r) : ps_Ok mX3_unfold (d + 2) [.ref x0, .ref x1, .int x2, .int x3] g Q := by
  unfold fX3_unfold at h
  refine sX3_unfold_0 ?_
  refine ⟨by decide, ?_⟩
  replace h := q_be h
  obtain ⟨s21, hl, h⟩ := h
  refine ps_weak (q_lp_ok hl (fun s => ps_At mX3_unfold (d + 2) 3 [(0, .ref x0), (1, .ref x1), (2, .int x2), (3, .int x3), (4, .int s.1)] [] s.2 Q) (fun r => ps_At mX3_unfold (d + 2) 95 [] [] r Q) (fun s x hb hh he => pbX3_unfold_3 hb hh he) ?_) ⟨rfl, rfl, rfl, rfl, rfl, trivial⟩
  refine (?_ : ps_At mX3_unfold (d + 2) 95 [] [] s21 Q)
  refine sX3_unfold_95 ?_
  cases h
  exact ⟨rfl, rfl, hk⟩
noncomputable def fX11_addPixels (g : ps_G) (x0 : Nat) (x1 : Nat) : Option (Int32 × ps_G) := Option.bind (q_fR 11 0 (q_new 4 g) x0) fun v1 => Option.bind (v1) fun a2 => Option.bind (q_fI 9 5 (q_new 4 g) a2) fun v3 => Option.bind (fX4_init (q_new 4 g) g.1 v3 (0 : Int32) (-1 : Int32)) fun v4 => Option.bind (q_sR 4 15 v4 g.1 (some x1)) fun g5 => Option.bind (q_fR 11 0 g5 x0) fun v6 => Option.bind (v6) fun a7 => Option.bind (q_ob 9 g5 a7) fun u8 => Option.bind (fX9_among g5 a7 (-1 : Int32)) fun v9 => Option.bind (q_ob 11 g5 x0) fun u10 => q_b2 (fX11_addLayer g5 x0 g.1 v9) fun v11 g12 => some (v11, g12)
theorem rX11_addPixels {d : Nat} {Q : ps_Rs → ps_G → Prop} {g : ps_G} {x0 : Nat} {x1 : Nat} {r : Int32 × ps_G} (h : fX11_addPixels g x0 x1 = some r) (hk : Q (.inl (some (.int r.1))) r.2) : ps_Ok mX11_addPixels (d + 4) [.ref x0, .ref x1] g Q := by
  unfold fX11_addPixels at h
  refine sX11_addPixels_0 ?_
  replace h := q_be h
  obtain ⟨v1, hv, h⟩ := h
  replace hv := q_fR_e hv
  obtain ⟨_, cv1, dv1⟩ := hv
  replace h := q_be h
  obtain ⟨a2, ea2, h⟩ := h
  subst ea2
  replace h := q_be h
  obtain ⟨v3, hv, h⟩ := h
  replace hv := q_fI_e hv
  obtain ⟨_, cv3, dv3⟩ := hv
  replace h := q_be h
  obtain ⟨v4, hv, h⟩ := h
  refine ⟨rfl, ⟨some _, rfl⟩, _, _, cv1, dv1, _, _, cv3, dv3, ?_⟩
  refine rX4_init hv ?_
  replace h := q_be h
  obtain ⟨g5, hv, h⟩ := h
  replace hv := q_sR_e hv
  obtain ⟨_, cg5, dg5, yg5⟩ := hv
  replace h := q_be h
  obtain ⟨v6, hv, h⟩ := h
  replace hv := q_fR_e hv
  obtain ⟨_, cv6, dv6⟩ := hv
  replace h := q_be h
  obtain ⟨a7, ea7, h⟩ := h
  subst ea7
  replace h := q_be h
  obtain ⟨u8, hv, h⟩ := h
  replace hv := q_ob_e hv
  obtain ⟨_, cu8⟩ := hv
  replace h := q_be h
  obtain ⟨v9, hv, h⟩ := h
  refine ⟨some _, _, rfl, by decide, ⟨some _, rfl⟩, ⟨some _, rfl⟩, _, cg5, dg5, rfl, rfl, _, yg5, ⟨some _, rfl⟩, ⟨some _, rfl⟩, ⟨some _, rfl⟩, _, _, cv6, dv6, ⟨_, cu8⟩, ?_⟩
  refine rX9_among hv ?_
  replace h := q_be h
  obtain ⟨u10, hv, h⟩ := h
  replace hv := q_ob_e hv
  obtain ⟨_, cu10⟩ := hv
  replace h := q_b2_e h
  obtain ⟨v11, g12, hv, h⟩ := h
  refine ⟨⟨_, cu10⟩, ?_⟩
  refine rX11_addLayer hv ?_
  cases h
  exact ⟨rfl, hk⟩
noncomputable def jX11_raw_67 (g : ps_G) (x0 : Nat) (x2 : Int32) (x3 : Int32) : Option ((String ⊕ Int32) × ps_G) := Option.bind (q_nA .int g (576 : Int32)) fun g24 => Option.bind (q_fR 11 10 g24 x0) fun v25 => Option.bind (v25) fun a26 => Option.bind (q_ob 3 g24 a26) fun u27 => Option.bind (fX3_unfold g24 a26 g.1 x2 x3) fun v28 => Option.bind (q_ob 11 v28 x0) fun u29 => q_b2 (fX11_addPixels v28 x0 g.1) fun v30 g31 => some (.inr v30, g31)
theorem pjX11_raw_67 {d : Nat} {Q : ps_Rs → ps_G → Prop} {g : ps_G} {x0 : Nat} {x2 : Int32} {x3 : Int32} {r : (String ⊕ Int32) × ps_G} (h : jX11_raw_67 g x0 x2 x3 = some r) (hk : Q (q_rI r.1) r.2) : ps_At mX11_raw (d + 7) 67 [(0, .ref x0), (2, .int x2), (3, .int x3)] [] g Q := by
  unfold jX11_raw_67 at h
  refine sX11_raw_67 ?_
  replace h := q_be h
  obtain ⟨g24, hv, h⟩ := h
  replace hv := q_nA_e hv
  obtain ⟨ag24, bg24, yg24⟩ := hv
  replace h := q_be h
  obtain ⟨v25, hv, h⟩ := h
  replace hv := q_fR_e hv
  obtain ⟨_, cv25, dv25⟩ := hv
  replace h := q_be h
  obtain ⟨a26, ea26, h⟩ := h
  subst ea26
  replace h := q_be h
  obtain ⟨u27, hv, h⟩ := h
  replace hv := q_ob_e hv
  obtain ⟨_, cu27⟩ := hv
  replace h := q_be h
  obtain ⟨v28, hv, h⟩ := h
  refine ⟨Or.inl rfl, ag24, bg24, _, yg24, some _, _, rfl, by decide, ⟨some _, rfl⟩, _, _, cv25, dv25, ⟨some _, rfl⟩, ⟨_, cu27⟩, ?_⟩
  refine rX3_unfold hv ?_
  replace h := q_be h
  obtain ⟨u29, hv, h⟩ := h
  replace hv := q_ob_e hv
  obtain ⟨_, cu29⟩ := hv
  replace h := q_b2_e h
  obtain ⟨v30, g31, hv, h⟩ := h
  refine ⟨⟨some _, rfl⟩, ⟨some _, rfl⟩, ⟨_, cu29⟩, ?_⟩
  refine rX11_addPixels hv ?_
  cases h
  exact ⟨rfl, hk⟩
noncomputable def jX11_raw_40 (g : ps_G) (x0 : Nat) (x2 : Int32) (x3 : Int32) : Option ((String ⊕ Int32) × ps_G) := Option.bind (q_fR 11 10 g x0) fun v15 => Option.bind (v15) fun a16 => Option.bind (q_fR 11 13 g x0) fun v17 => Option.bind (v17) fun a18 => Option.bind (q_ob 3 g a16) fun u19 => q_b2 (fX3_takeFrame g a16 a18 x2 x3) fun v20 g21 => if v20 < 0 then (jX11_raw_67 g21 x0 x2 x3) else (Option.bind (q_ob 11 g21 x0) fun u32 => q_tc (fX11_failInput g21 x0 (2 : Int32) v20) fun v33 g34 => jX11_raw_67 g34 x0 x2 x3)
theorem pjX11_raw_40 {d : Nat} {Q : ps_Rs → ps_G → Prop} {g : ps_G} {x0 : Nat} {x2 : Int32} {x3 : Int32} {r : (String ⊕ Int32) × ps_G} (h : jX11_raw_40 g x0 x2 x3 = some r) (hk : Q (q_rI r.1) r.2) : ps_At mX11_raw (d + 7) 40 [(0, .ref x0), (2, .int x2), (3, .int x3)] [] g Q := by
  unfold jX11_raw_40 at h
  refine sX11_raw_40 ?_
  replace h := q_be h
  obtain ⟨v15, hv, h⟩ := h
  replace hv := q_fR_e hv
  obtain ⟨_, cv15, dv15⟩ := hv
  replace h := q_be h
  obtain ⟨a16, ea16, h⟩ := h
  subst ea16
  replace h := q_be h
  obtain ⟨v17, hv, h⟩ := h
  replace hv := q_fR_e hv
  obtain ⟨_, cv17, dv17⟩ := hv
  replace h := q_be h
  obtain ⟨a18, ea18, h⟩ := h
  subst ea18
  replace h := q_be h
  obtain ⟨u19, hv, h⟩ := h
  replace hv := q_ob_e hv
  obtain ⟨_, cu19⟩ := hv
  replace h := q_b2_e h
  obtain ⟨v20, g21, hv, h⟩ := h
  refine ⟨⟨some _, rfl⟩, _, _, cv15, dv15, ⟨some _, rfl⟩, _, _, cv17, dv17, ⟨_, cu19⟩, ?_⟩
  refine rX3_takeFrame hv ?_
  refine ⟨by decide, ?_⟩
  refine And.intro (fun hc22 => ?_) (fun hc22 => ?_)
  · replace h := q_ifp (hc22) h
    exact ps_weak (pjX11_raw_67 h hk) ⟨rfl, rfl, rfl, trivial⟩
  · replace h := q_ifn (hc22) h
    replace h := q_be h
    obtain ⟨u32, hv, h⟩ := h
    replace hv := q_ob_e hv
    obtain ⟨_, cu32⟩ := hv
    refine ⟨⟨some _, rfl⟩, ⟨_, cu32⟩, ?_⟩
    replace h := q_tc_e h
    rcases h with ⟨E, g34, hv, rfl⟩ | ⟨v33, g34, hv, h⟩
    · exact rX11_failInput hv hk
    refine rX11_failInput hv ?_
    exact ps_weak (pjX11_raw_67 h hk) ⟨rfl, rfl, rfl, trivial⟩
noncomputable def fX11_raw (g : ps_G) (x0 : Nat) : Option ((String ⊕ Int32) × ps_G) := Option.bind (q_ob 11 g x0) fun u1 => q_b2 (fX11_takeInput g x0) fun v2 g3 => Option.bind (q_ob 11 g3 x0) fun u4 => q_tc (fX11_needNumber g3 x0) fun v5 g6 => Option.bind (q_fR 11 0 g6 x0) fun v7 => Option.bind (v7) fun a8 => Option.bind (q_fI 9 0 g6 a8) fun v9 => Option.bind (q_fR 11 0 g6 x0) fun v10 => Option.bind (v10) fun a11 => Option.bind (q_fI 9 1 g6 a11) fun v12 => if v2 = (((2 : Int32) * v9) * v12) then (jX11_raw_40 g6 x0 v9 v12) else (Option.bind (q_ob 11 g6 x0) fun u37 => q_tc (fX11_failInput g6 x0 (1 : Int32) v2) fun v38 g39 => jX11_raw_40 g39 x0 v9 v12)
theorem rX11_raw {d : Nat} {Q : ps_Rs → ps_G → Prop} {g : ps_G} {x0 : Nat} {r : (String ⊕ Int32) × ps_G} (h : fX11_raw g x0 = some r) (hk : Q (q_rI r.1) r.2) : ps_Ok mX11_raw (d + 7) [.ref x0] g Q := by
  unfold fX11_raw at h
  refine sX11_raw_0 ?_
  replace h := q_be h
  obtain ⟨u1, hv, h⟩ := h
  replace hv := q_ob_e hv
  obtain ⟨_, cu1⟩ := hv
  replace h := q_b2_e h
  obtain ⟨v2, g3, hv, h⟩ := h
  refine ⟨⟨some _, rfl⟩, ⟨_, cu1⟩, ?_⟩
  refine rX11_takeInput hv ?_
  replace h := q_be h
  obtain ⟨u4, hv, h⟩ := h
  replace hv := q_ob_e hv
  obtain ⟨_, cu4⟩ := hv
  refine ⟨by decide, ⟨some _, rfl⟩, ⟨_, cu4⟩, ?_⟩
  replace h := q_tc_e h
  rcases h with ⟨E, g6, hv, rfl⟩ | ⟨v5, g6, hv, h⟩
  · exact rX11_needNumber hv hk
  refine rX11_needNumber hv ?_
  replace h := q_be h
  obtain ⟨v7, hv, h⟩ := h
  replace hv := q_fR_e hv
  obtain ⟨_, cv7, dv7⟩ := hv
  replace h := q_be h
  obtain ⟨a8, ea8, h⟩ := h
  subst ea8
  replace h := q_be h
  obtain ⟨v9, hv, h⟩ := h
  replace hv := q_fI_e hv
  obtain ⟨_, cv9, dv9⟩ := hv
  replace h := q_be h
  obtain ⟨v10, hv, h⟩ := h
  replace hv := q_fR_e hv
  obtain ⟨_, cv10, dv10⟩ := hv
  replace h := q_be h
  obtain ⟨a11, ea11, h⟩ := h
  subst ea11
  replace h := q_be h
  obtain ⟨v12, hv, h⟩ := h
  replace hv := q_fI_e hv
  obtain ⟨_, cv12, dv12⟩ := hv
  refine ⟨⟨some _, rfl⟩, _, _, cv7, dv7, _, _, cv9, dv9, by decide, ⟨some _, rfl⟩, _, _, cv10, dv10, _, _, cv12, dv12, by decide, ?_⟩
  refine And.intro (fun hc13 => ?_) (fun hc13 => ?_)
  · replace h := q_ifp (hc13) h
    exact ps_weak (pjX11_raw_40 h hk) ⟨rfl, rfl, rfl, trivial⟩
  · replace h := q_ifn (hc13) h
    replace h := q_be h
    obtain ⟨u37, hv, h⟩ := h
    replace hv := q_ob_e hv
    obtain ⟨_, cu37⟩ := hv
    refine ⟨⟨some _, rfl⟩, ⟨_, cu37⟩, ?_⟩
    replace h := q_tc_e h
    rcases h with ⟨E, g39, hv, rfl⟩ | ⟨v38, g39, hv, h⟩
    · exact rX11_failInput hv hk
    refine rX11_failInput hv ?_
    exact ps_weak (pjX11_raw_40 h hk) ⟨rfl, rfl, rfl, trivial⟩
noncomputable def jX8_isSigned_32_2 (g : ps_G) : Option ((Int32) ⊕ ((Unit) ⊕ (Int32))) := some (.inr (.inr (0 : Int32)))
theorem pjX8_isSigned_32_2 {d : Nat} {Q : ps_Rs → ps_G → Prop} {g : ps_G}  {x0 : Nat} {x : (Int32) ⊕ ((Unit) ⊕ (Int32))} (h : jX8_isSigned_32_2 g = some x) (hh : ∀ s' : Int32, x = .inl s' → ps_At mX8_isSigned d 2 [(0, .ref x0), (1, .int s')] [] g Q) (he : ∀ r' : Unit, x = .inr (.inl r') → ps_At mX8_isSigned d 40 [] [] g Q) (hr : ∀ v' : Int32, x = .inr (.inr v') → Q (.inl (some (.int v'))) g) : ps_At mX8_isSigned d 32 [] [] g Q := by
  unfold jX8_isSigned_32_2 at h
  refine sX8_isSigned_32 ?_
  exact ⟨rfl, Or.inl rfl, hr (0 : Int32) (Option.some.inj h).symm⟩
noncomputable def bX8_isSigned_2 (g : ps_G) (x0 : Nat) (x1 : Int32) : Option ((Int32) ⊕ ((Unit) ⊕ (Int32))) := Option.bind (q_len g 1) fun v1 => if v1 ≤ x1 then (some (.inr (.inl ()))) else (Option.bind (q_fI 8 3 g x0) fun v3 => if v3 ≤ x1 then (jX8_isSigned_32_2 g) else (Option.bind (q_fR 8 2 g x0) fun v5 => Option.bind (v5) fun a6 => Option.bind (q_aI g a6 x1) fun v7 => Option.bind (q_aI g 1 x1) fun v8 => if v7 = v8 then (some (.inl (x1 + (1 : Int32)))) else (jX8_isSigned_32_2 g)))
theorem pbX8_isSigned_2 {d : Nat} {Q : ps_Rs → ps_G → Prop} {g : ps_G} {x0 : Nat} {x1 : Int32} {x : (Int32) ⊕ ((Unit) ⊕ (Int32))} (h : bX8_isSigned_2 g x0 x1 = some x) (hh : ∀ s' : Int32, x = .inl s' → ps_At mX8_isSigned d 2 [(0, .ref x0), (1, .int s')] [] g Q) (he : ∀ r' : Unit, x = .inr (.inl r') → ps_At mX8_isSigned d 40 [] [] g Q) (hr : ∀ v' : Int32, x = .inr (.inr v') → Q (.inl (some (.int v'))) g) : ps_At mX8_isSigned d 2 [(0, .ref x0), (1, .int x1)] [] g Q := by
  unfold bX8_isSigned_2 at h
  refine sX8_isSigned_2 ?_
  replace h := q_be h
  obtain ⟨v1, hv, h⟩ := h
  replace hv := q_len_e hv
  obtain ⟨_, _, cv1, qv1, yv1⟩ := hv
  refine ⟨_, _, cv1, qv1, _, yv1, ?_⟩
  refine And.intro (fun hc2 => ?_) (fun hc2 => ?_)
  · replace h := q_ifp (hc2) h
    exact ps_weak (he () (Option.some.inj h).symm) trivial
  · replace h := q_ifn (hc2) h
    replace h := q_be h
    obtain ⟨v3, hv, h⟩ := h
    replace hv := q_fI_e hv
    obtain ⟨_, cv3, dv3⟩ := hv
    refine ⟨⟨some _, rfl⟩, _, _, cv3, dv3, ?_⟩
    refine And.intro (fun hc4 => ?_) (fun hc4 => ?_)
    · replace h := q_ifp (hc4) h
      exact ps_weak (pjX8_isSigned_32_2 h hh he hr) trivial
    · replace h := q_ifn (hc4) h
      replace h := q_be h
      obtain ⟨v5, hv, h⟩ := h
      replace hv := q_fR_e hv
      obtain ⟨_, cv5, dv5⟩ := hv
      replace h := q_be h
      obtain ⟨a6, ea6, h⟩ := h
      subst ea6
      replace h := q_be h
      obtain ⟨v7, hv, h⟩ := h
      replace hv := q_aI_e hv
      obtain ⟨_, _, cv7, iv7, yv7⟩ := hv
      replace h := q_be h
      obtain ⟨v8, hv, h⟩ := h
      replace hv := q_aI_e hv
      obtain ⟨_, _, cv8, iv8, yv8⟩ := hv
      refine ⟨⟨some _, rfl⟩, _, _, cv5, dv5, _, _, cv7, iv7, _, yv7, _, _, cv8, iv8, _, yv8, ?_⟩
      refine And.intro (fun hc9 => ?_) (fun hc9 => ?_)
      · replace h := q_ifp (hc9) h
        refine sX8_isSigned_34 ?_
        refine ⟨by decide, ?_⟩
        exact ps_weak (hh (x1 + (1 : Int32)) (Option.some.inj h).symm) ⟨rfl, rfl, trivial⟩
      · replace h := q_ifn (hc9) h
        exact ps_weak (pjX8_isSigned_32_2 h hh he hr) trivial
noncomputable def fX8_isSigned (g : ps_G) (x0 : Nat) : Option (Int32) := Option.bind (q_lp (fun s => bX8_isSigned_2 g x0 s) (0 : Int32)) fun s16 => Sum.elim (fun r17 => some (1 : Int32)) (fun v18 => some v18) s16
theorem rX8_isSigned {d : Nat} {Q : ps_Rs → ps_G → Prop} {g : ps_G} {x0 : Nat} {r : Int32} (h : fX8_isSigned g x0 = some r) (hk : Q (.inl (some (.int r))) g) : ps_Ok mX8_isSigned d [.ref x0] g Q := by
  unfold fX8_isSigned at h
  refine sX8_isSigned_0 ?_
  refine ⟨by decide, ?_⟩
  replace h := q_be h
  obtain ⟨s16, hl, h⟩ := h
  refine ps_weak (q_lp_ok hl (fun s => ps_At mX8_isSigned d 2 [(0, .ref x0), (1, .int s)] [] g Q) (Sum.elim (fun r => ps_At mX8_isSigned d 40 [] [] g Q) (fun v => Q (.inl (some (.int v))) g)) (fun s x hb hh he => pbX8_isSigned_2 hb hh (fun _ e => he _ e) (fun _ e => he _ e)) ?_) ⟨rfl, rfl, trivial⟩
  rcases s16 with r17 | v18
  · refine (?_ : ps_At mX8_isSigned d 40 [] [] g Q)
    refine sX8_isSigned_40 ?_
    cases h
    exact ⟨rfl, Or.inr rfl, hk⟩
  · cases h
    exact hk
noncomputable def fX8_fails (g : ps_G) (x0 : Nat) (x1 : Int32) (x2 : Int32) : Option (Int32 × ps_G) := Option.bind (q_sI 8 0 g x0 x1) fun g1 => Option.bind (q_sI 8 1 g1 x0 x2) fun g2 => some ((0 : Int32), g2)
theorem rX8_fails {d : Nat} {Q : ps_Rs → ps_G → Prop} {g : ps_G} {x0 : Nat} {x1 : Int32} {x2 : Int32} {r : Int32 × ps_G} (h : fX8_fails g x0 x1 x2 = some r) (hk : Q (.inl (some (.int r.1))) r.2) : ps_Ok mX8_fails d [.ref x0, .int x1, .int x2] g Q := by
  unfold fX8_fails at h
  refine sX8_fails_0 ?_
  replace h := q_be h
  obtain ⟨g1, hv, h⟩ := h
  replace hv := q_sI_e hv
  obtain ⟨_, cg1, dg1, yg1⟩ := hv
  replace h := q_be h
  obtain ⟨g2, hv, h⟩ := h
  replace hv := q_sI_e hv
  obtain ⟨_, cg2, dg2, yg2⟩ := hv
  cases h
  exact ⟨⟨some _, rfl⟩, _, cg1, dg1, rfl, rfl, _, yg1, ⟨some _, rfl⟩, _, cg2, dg2, rfl, rfl, _, yg2, rfl, Or.inl rfl, hk⟩
noncomputable def jX8_byteAt_35 (g : ps_G) (k0 : Int32) : Option (Int32) := some k0
theorem pjX8_byteAt_35 {d : Nat} {Q : ps_Rs → ps_G → Prop} {g : ps_G} {k0 : Int32} {r : Int32} (h : jX8_byteAt_35 g k0 = some r) (hk : Q (.inl (some (.int r))) g) : ps_At mX8_byteAt d 35 [] [.int k0] g Q := by
  unfold jX8_byteAt_35 at h
  refine sX8_byteAt_35 ?_
  cases h
  exact ⟨rfl, hk⟩
noncomputable def jX8_byteAt_34 (g : ps_G) : Option (Int32) := jX8_byteAt_35 g (0 : Int32)
theorem pjX8_byteAt_34 {d : Nat} {Q : ps_Rs → ps_G → Prop} {g : ps_G}  {r : Int32} (h : jX8_byteAt_34 g = some r) (hk : Q (.inl (some (.int r))) g) : ps_At mX8_byteAt d 34 [] [] g Q := by
  unfold jX8_byteAt_34 at h
  refine sX8_byteAt_34 ?_
  exact ps_weak (pjX8_byteAt_35 h hk) trivial
noncomputable def fX8_byteAt (g : ps_G) (x0 : Nat) (x1 : Int32) : Option (Int32) := if x1 < 0 then (jX8_byteAt_34 g) else (Option.bind (q_fI 8 3 g x0) fun v2 => if v2 ≤ x1 then (jX8_byteAt_34 g) else (Option.bind (q_fR 8 2 g x0) fun v4 => Option.bind (v4) fun a5 => Option.bind (q_len g a5) fun v6 => if v6 ≤ x1 then (jX8_byteAt_34 g) else (Option.bind (q_fR 8 2 g x0) fun v8 => Option.bind (v8) fun a9 => Option.bind (q_aI g a9 x1) fun v10 => jX8_byteAt_35 g (v10 &&& (255 : Int32)))))
theorem rX8_byteAt {d : Nat} {Q : ps_Rs → ps_G → Prop} {g : ps_G} {x0 : Nat} {x1 : Int32} {r : Int32} (h : fX8_byteAt g x0 x1 = some r) (hk : Q (.inl (some (.int r))) g) : ps_Ok mX8_byteAt d [.ref x0, .int x1] g Q := by
  unfold fX8_byteAt at h
  refine sX8_byteAt_0 ?_
  refine And.intro (fun hc1 => ?_) (fun hc1 => ?_)
  · replace h := q_ifp (hc1) h
    exact ps_weak (pjX8_byteAt_34 h hk) trivial
  · replace h := q_ifn (hc1) h
    replace h := q_be h
    obtain ⟨v2, hv, h⟩ := h
    replace hv := q_fI_e hv
    obtain ⟨_, cv2, dv2⟩ := hv
    refine ⟨⟨some _, rfl⟩, _, _, cv2, dv2, ?_⟩
    refine And.intro (fun hc3 => ?_) (fun hc3 => ?_)
    · replace h := q_ifp (hc3) h
      exact ps_weak (pjX8_byteAt_34 h hk) trivial
    · replace h := q_ifn (hc3) h
      replace h := q_be h
      obtain ⟨v4, hv, h⟩ := h
      replace hv := q_fR_e hv
      obtain ⟨_, cv4, dv4⟩ := hv
      replace h := q_be h
      obtain ⟨a5, ea5, h⟩ := h
      subst ea5
      replace h := q_be h
      obtain ⟨v6, hv, h⟩ := h
      replace hv := q_len_e hv
      obtain ⟨_, _, cv6, qv6, yv6⟩ := hv
      refine ⟨⟨some _, rfl⟩, _, _, cv4, dv4, _, _, cv6, qv6, _, yv6, ?_⟩
      refine And.intro (fun hc7 => ?_) (fun hc7 => ?_)
      · replace h := q_ifp (hc7) h
        exact ps_weak (pjX8_byteAt_34 h hk) trivial
      · replace h := q_ifn (hc7) h
        replace h := q_be h
        obtain ⟨v8, hv, h⟩ := h
        replace hv := q_fR_e hv
        obtain ⟨_, cv8, dv8⟩ := hv
        replace h := q_be h
        obtain ⟨a9, ea9, h⟩ := h
        subst ea9
        replace h := q_be h
        obtain ⟨v10, hv, h⟩ := h
        replace hv := q_aI_e hv
        obtain ⟨_, _, cv10, iv10, yv10⟩ := hv
        refine ⟨⟨some _, rfl⟩, _, _, cv8, dv8, _, _, cv10, iv10, _, yv10, ?_⟩
        exact ps_weak (pjX8_byteAt_35 h hk) trivial
noncomputable def fX8_fourAt (g : ps_G) (x0 : Nat) (x1 : Int32) : Option (Int32) := Option.bind (q_ob 8 g x0) fun u1 => Option.bind (fX8_byteAt g x0 x1) fun v2 => Option.bind (q_ob 8 g x0) fun u3 => Option.bind (fX8_byteAt g x0 (x1 + (1 : Int32))) fun v4 => Option.bind (q_ob 8 g x0) fun u5 => Option.bind (fX8_byteAt g x0 (x1 + (2 : Int32))) fun v6 => Option.bind (q_ob 8 g x0) fun u7 => Option.bind (fX8_byteAt g x0 (x1 + (3 : Int32))) fun v8 => some ((((q_shl v2 (24 : Int32)) ||| (q_shl v4 (16 : Int32))) ||| (q_shl v6 (8 : Int32))) ||| v8)
theorem rX8_fourAt {d : Nat} {Q : ps_Rs → ps_G → Prop} {g : ps_G} {x0 : Nat} {x1 : Int32} {r : Int32} (h : fX8_fourAt g x0 x1 = some r) (hk : Q (.inl (some (.int r))) g) : ps_Ok mX8_fourAt (d + 1) [.ref x0, .int x1] g Q := by
  unfold fX8_fourAt at h
  refine sX8_fourAt_0 ?_
  replace h := q_be h
  obtain ⟨u1, hv, h⟩ := h
  replace hv := q_ob_e hv
  obtain ⟨_, cu1⟩ := hv
  replace h := q_be h
  obtain ⟨v2, hv, h⟩ := h
  refine ⟨⟨some _, rfl⟩, ⟨_, cu1⟩, ?_⟩
  refine rX8_byteAt hv ?_
  replace h := q_be h
  obtain ⟨u3, hv, h⟩ := h
  replace hv := q_ob_e hv
  obtain ⟨_, cu3⟩ := hv
  replace h := q_be h
  obtain ⟨v4, hv, h⟩ := h
  refine ⟨⟨some _, rfl⟩, ⟨_, cu3⟩, ?_⟩
  refine rX8_byteAt hv ?_
  replace h := q_be h
  obtain ⟨u5, hv, h⟩ := h
  replace hv := q_ob_e hv
  obtain ⟨_, cu5⟩ := hv
  replace h := q_be h
  obtain ⟨v6, hv, h⟩ := h
  refine ⟨⟨some _, rfl⟩, ⟨_, cu5⟩, ?_⟩
  refine rX8_byteAt hv ?_
  replace h := q_be h
  obtain ⟨u7, hv, h⟩ := h
  replace hv := q_ob_e hv
  obtain ⟨_, cu7⟩ := hv
  replace h := q_be h
  obtain ⟨v8, hv, h⟩ := h
  refine ⟨⟨some _, rfl⟩, ⟨_, cu7⟩, ?_⟩
  refine rX8_byteAt hv ?_
  refine sX8_fourAt_37 ?_
  cases h
  exact ⟨rfl, hk⟩
noncomputable def bX11_crc_36 (g : ps_G) (x0 : Nat) (x2 : Int32) (x4 : Int32) (x3 : Int32) (x5 : Int32) : Option ((Int32 × Int32) ⊕ (Int32)) := if (8 : Int32) ≤ x5 then (some (.inr x3)) else (some (.inl ((if (x3 &&& (1 : Int32)) = 0 then q_ush x3 (1 : Int32) else (q_ush x3 (1 : Int32)) ^^^ (-306674912 : Int32)), x5 + (1 : Int32))))
theorem pbX11_crc_36 {d : Nat} {Q : ps_Rs → ps_G → Prop} {g : ps_G} {x0 : Nat} {x2 : Int32} {x4 : Int32} {x3 : Int32} {x5 : Int32} {x : (Int32 × Int32) ⊕ (Int32)} (h : bX11_crc_36 g x0 x2 x4 x3 x5 = some x) (hh : ∀ s' : Int32 × Int32, x = .inl s' → ps_At mX11_crc (d + 1) 36 [(0, .ref x0), (2, .int x2), (3, .int s'.1), (4, .int x4), (5, .int s'.2)] [] g Q) (he : ∀ r' : Int32, x = .inr r' → ps_At mX11_crc (d + 1) 69 [(0, .ref x0), (2, .int x2), (3, .int r'), (4, .int x4)] [] g Q) : ps_At mX11_crc (d + 1) 36 [(0, .ref x0), (2, .int x2), (3, .int x3), (4, .int x4), (5, .int x5)] [] g Q := by
  unfold bX11_crc_36 at h
  refine sX11_crc_36 ?_
  refine And.intro (fun hc7 => ?_) (fun hc7 => ?_)
  · replace h := q_ifp (hc7) h
    exact ps_weak (he x3 (Option.some.inj h).symm) ⟨rfl, rfl, rfl, rfl, trivial⟩
  · replace h := q_ifn (hc7) h
    have kJ13 : ∀ w12 : Int32, w12 = (if (x3 &&& (1 : Int32)) = 0 then q_ush x3 (1 : Int32) else (q_ush x3 (1 : Int32)) ^^^ (-306674912 : Int32)) → ps_At mX11_crc (d + 1) 62 [(0, .ref x0), (2, .int x2), (4, .int x4), (5, .int x5)] [.int w12] g Q := by
      rintro _ rfl
      refine sX11_crc_62 ?_
      refine ⟨by decide, by decide, ?_⟩
      exact ps_weak (hh ((if (x3 &&& (1 : Int32)) = 0 then q_ush x3 (1 : Int32) else (q_ush x3 (1 : Int32)) ^^^ (-306674912 : Int32)), x5 + (1 : Int32)) (Option.some.inj h).symm) ⟨rfl, rfl, rfl, rfl, rfl, trivial⟩
    refine And.intro (fun hc11 => ?_) (fun hc11 => ?_)
    · refine sX11_crc_59 ?_
      exact ps_weak (kJ13 _ (if_pos (hc11)).symm) ⟨rfl, rfl, rfl, rfl, trivial⟩
    · exact ps_weak (kJ13 _ (if_neg (hc11)).symm) ⟨rfl, rfl, rfl, rfl, trivial⟩
noncomputable def bX11_crc_9 (g : ps_G) (x0 : Nat) (x2 : Int32) (x3 : Int32) (x4 : Int32) : Option ((Int32 × Int32) ⊕ (Int32)) := if x2 ≤ x4 then (some (.inr x3)) else (Option.bind (q_len g x0) fun v3 => if v3 ≤ x4 then (some (.inr x3)) else (Option.bind (q_aI g x0 x4) fun v6 => Option.bind (q_lp (fun s => bX11_crc_36 g x0 x2 x4 s.1 s.2) (x3 ^^^ (v6 &&& (255 : Int32)), (0 : Int32))) fun s16 => some (.inl (s16, x4 + (1 : Int32)))))
theorem pbX11_crc_9 {d : Nat} {Q : ps_Rs → ps_G → Prop} {g : ps_G} {x0 : Nat} {x2 : Int32} {x3 : Int32} {x4 : Int32} {x : (Int32 × Int32) ⊕ (Int32)} (h : bX11_crc_9 g x0 x2 x3 x4 = some x) (hh : ∀ s' : Int32 × Int32, x = .inl s' → ps_At mX11_crc (d + 1) 9 [(0, .ref x0), (2, .int x2), (3, .int s'.1), (4, .int s'.2)] [] g Q) (he : ∀ r' : Int32, x = .inr r' → ps_At mX11_crc (d + 1) 75 [(3, .int r')] [] g Q) : ps_At mX11_crc (d + 1) 9 [(0, .ref x0), (2, .int x2), (3, .int x3), (4, .int x4)] [] g Q := by
  unfold bX11_crc_9 at h
  refine sX11_crc_9 ?_
  refine And.intro (fun hc1 => ?_) (fun hc1 => ?_)
  · replace h := q_ifp (hc1) h
    exact ps_weak (he x3 (Option.some.inj h).symm) ⟨rfl, trivial⟩
  · replace h := q_ifn (hc1) h
    replace h := q_be h
    obtain ⟨v3, hv, h⟩ := h
    replace hv := q_len_e hv
    obtain ⟨_, _, cv3, qv3, yv3⟩ := hv
    refine ⟨⟨some _, rfl⟩, _, _, cv3, qv3, _, yv3, ?_⟩
    refine And.intro (fun hc4 => ?_) (fun hc4 => ?_)
    · replace h := q_ifp (hc4) h
      exact ps_weak (he x3 (Option.some.inj h).symm) ⟨rfl, trivial⟩
    · replace h := q_ifn (hc4) h
      replace h := q_be h
      obtain ⟨v6, hv, h⟩ := h
      replace hv := q_aI_e hv
      obtain ⟨_, _, cv6, iv6, yv6⟩ := hv
      refine ⟨⟨some _, rfl⟩, _, _, cv6, iv6, _, yv6, by decide, by decide, ?_⟩
      replace h := q_be h
      obtain ⟨s16, hl, h⟩ := h
      refine ps_weak (q_lp_ok hl (fun s => ps_At mX11_crc (d + 1) 36 [(0, .ref x0), (2, .int x2), (3, .int s.1), (4, .int x4), (5, .int s.2)] [] g Q) (fun r => ps_At mX11_crc (d + 1) 69 [(0, .ref x0), (2, .int x2), (3, .int r), (4, .int x4)] [] g Q) (fun s x hb hh he => pbX11_crc_36 hb hh he) ?_) ⟨rfl, rfl, rfl, rfl, rfl, trivial⟩
      refine (?_ : ps_At mX11_crc (d + 1) 69 [(0, .ref x0), (2, .int x2), (3, .int s16), (4, .int x4)] [] g Q)
      refine sX11_crc_69 ?_
      refine ⟨by decide, ?_⟩
      exact ps_weak (hh (s16, x4 + (1 : Int32)) (Option.some.inj h).symm) ⟨rfl, rfl, rfl, rfl, trivial⟩
noncomputable def jX11_crc_75 (g : ps_G) (x3 : Int32) : Option (Int32) := some (x3 ^^^ (-1 : Int32))
theorem pjX11_crc_75 {d : Nat} {Q : ps_Rs → ps_G → Prop} {g : ps_G} {x3 : Int32} {r : Int32} (h : jX11_crc_75 g x3 = some r) (hk : Q (.inl (some (.int r))) g) : ps_At mX11_crc (d + 1) 75 [(3, .int x3)] [] g Q := by
  unfold jX11_crc_75 at h
  refine sX11_crc_75 ?_
  cases h
  exact ⟨rfl, hk⟩
noncomputable def fX11_crc (g : ps_G) (x0 : Nat) (x1 : Int32) (x2 : Int32) : Option (Int32) := Option.bind (q_lp (fun s => bX11_crc_9 g x0 x2 s.1 s.2) ((-1 : Int32), fJ9_max_7cf53 x1 (0 : Int32))) fun s21 => jX11_crc_75 g s21
theorem rX11_crc {d : Nat} {Q : ps_Rs → ps_G → Prop} {g : ps_G} {x0 : Nat} {x1 : Int32} {x2 : Int32} {r : Int32} (h : fX11_crc g x0 x1 x2 = some r) (hk : Q (.inl (some (.int r))) g) : ps_Ok mX11_crc (d + 1) [.ref x0, .int x1, .int x2] g Q := by
  unfold fX11_crc at h
  refine sX11_crc_0 ?_
  refine ⟨by decide, ?_⟩
  refine rJ9_max_7cf53 rfl ?_
  refine ⟨by decide, ?_⟩
  replace h := q_be h
  obtain ⟨s21, hl, h⟩ := h
  refine ps_weak (q_lp_ok hl (fun s => ps_At mX11_crc (d + 1) 9 [(0, .ref x0), (2, .int x2), (3, .int s.1), (4, .int s.2)] [] g Q) (fun r => ps_At mX11_crc (d + 1) 75 [(3, .int r)] [] g Q) (fun s x hb hh he => pbX11_crc_9 hb hh he) ?_) ⟨rfl, rfl, rfl, rfl, trivial⟩
  refine (?_ : ps_At mX11_crc (d + 1) 75 [(3, .int s21)] [] g Q)
  exact ps_weak (pjX11_crc_75 h hk) ⟨rfl, trivial⟩
noncomputable def jX8_isChunk_34 (g : ps_G) (x0 : Nat) (x1 : Int32) : Option (Int32 × ps_G) := Option.bind (q_ob 8 g x0) fun u6 => q_b2 (fX8_fails g x0 (1 : Int32) x1) fun v7 g8 => Option.bind (q_bl v7) fun v9 => some (v9, g8)
theorem pjX8_isChunk_34 {d : Nat} {Q : ps_Rs → ps_G → Prop} {g : ps_G} {x0 : Nat} {x1 : Int32} {r : Int32 × ps_G} (h : jX8_isChunk_34 g x0 x1 = some r) (hk : Q (.inl (some (.int r.1))) r.2) : ps_At mX8_isChunk (d + 2) 34 [(0, .ref x0), (1, .int x1)] [] g Q := by
  unfold jX8_isChunk_34 at h
  refine sX8_isChunk_34 ?_
  replace h := q_be h
  obtain ⟨u6, hv, h⟩ := h
  replace hv := q_ob_e hv
  obtain ⟨_, cu6⟩ := hv
  replace h := q_b2_e h
  obtain ⟨v7, g8, hv, h⟩ := h
  refine ⟨⟨some _, rfl⟩, ⟨_, cu6⟩, ?_⟩
  refine rX8_fails hv ?_
  replace h := q_be h
  obtain ⟨v9, hv, h⟩ := h
  replace hv := q_bl_e hv
  obtain ⟨zv9, rfl⟩ := hv
  cases h
  exact ⟨rfl, zv9, hk⟩
noncomputable def fX8_isChunk (g : ps_G) (x0 : Nat) (x1 : Int32) : Option (Int32 × ps_G) := Option.bind (q_ob 8 g x0) fun u1 => Option.bind (fX8_fourAt g x0 x1) fun v2 => Option.bind (q_fI 8 3 g x0) fun v3 => if (v3 < (x1 + (12 : Int32))) ∨ (v2 < 0) then (jX8_isChunk_34 g x0 x1) else (Option.bind (q_fI 8 3 g x0) fun v10 => if v2 ≤ ((v10 - x1) - (12 : Int32)) then (Option.bind (q_fR 8 2 g x0) fun v12 => Option.bind (v12) fun a13 => Option.bind (fX11_crc g a13 (x1 + (4 : Int32)) ((x1 + (8 : Int32)) + v2)) fun v14 => Option.bind (q_ob 8 g x0) fun u15 => Option.bind (fX8_fourAt g x0 ((x1 + (8 : Int32)) + v2)) fun v16 => if v14 = v16 then (some ((1 : Int32), g)) else (Option.bind (q_ob 8 g x0) fun u18 => q_b2 (fX8_fails g x0 (2 : Int32) x1) fun v19 g20 => Option.bind (q_bl v19) fun v21 => some (v21, g20))) else (jX8_isChunk_34 g x0 x1))
theorem rX8_isChunk {d : Nat} {Q : ps_Rs → ps_G → Prop} {g : ps_G} {x0 : Nat} {x1 : Int32} {r : Int32 × ps_G} (h : fX8_isChunk g x0 x1 = some r) (hk : Q (.inl (some (.int r.1))) r.2) : ps_Ok mX8_isChunk (d + 2) [.ref x0, .int x1] g Q := by
  unfold fX8_isChunk at h
  refine sX8_isChunk_0 ?_
  replace h := q_be h
  obtain ⟨u1, hv, h⟩ := h
  replace hv := q_ob_e hv
  obtain ⟨_, cu1⟩ := hv
  replace h := q_be h
  obtain ⟨v2, hv, h⟩ := h
  refine ⟨⟨some _, rfl⟩, ⟨_, cu1⟩, ?_⟩
  refine rX8_fourAt hv ?_
  replace h := q_be h
  obtain ⟨v3, hv, h⟩ := h
  replace hv := q_fI_e hv
  obtain ⟨_, cv3, dv3⟩ := hv
  have kT26 : (jX8_isChunk_34 g x0 x1) = some r → ps_At mX8_isChunk (d + 2) 34 [(0, .ref x0), (1, .int x1)] [] g Q := fun h => by
    exact ps_weak (pjX8_isChunk_34 h hk) ⟨rfl, rfl, trivial⟩
  refine ⟨by decide, ⟨some _, rfl⟩, _, _, cv3, dv3, ?_⟩
  refine And.intro (fun hc4 => ?_) (fun hc4 => ?_)
  · exact ps_weak (kT26 (q_ifp (Or.inl hc4) h)) ⟨rfl, rfl, trivial⟩
  · refine And.intro (fun hc5 => ?_) (fun hc5 => ?_)
    · exact ps_weak (kT26 (q_ifp (Or.inr (hc5)) h)) ⟨rfl, rfl, trivial⟩
    · replace h := q_ifn (not_or.mpr ⟨hc4, hc5⟩) h
      replace h := q_be h
      obtain ⟨v10, hv, h⟩ := h
      replace hv := q_fI_e hv
      obtain ⟨_, cv10, dv10⟩ := hv
      refine ⟨⟨some _, rfl⟩, _, _, cv10, dv10, ?_⟩
      refine And.intro (fun hc11 => ?_) (fun hc11 => ?_)
      · replace h := q_ifp (hc11) h
        refine sX8_isChunk_41 ?_
        replace h := q_be h
        obtain ⟨v12, hv, h⟩ := h
        replace hv := q_fR_e hv
        obtain ⟨_, cv12, dv12⟩ := hv
        replace h := q_be h
        obtain ⟨a13, ea13, h⟩ := h
        subst ea13
        replace h := q_be h
        obtain ⟨v14, hv, h⟩ := h
        refine ⟨⟨some _, rfl⟩, _, _, cv12, dv12, ?_⟩
        refine rX11_crc hv ?_
        replace h := q_be h
        obtain ⟨u15, hv, h⟩ := h
        replace hv := q_ob_e hv
        obtain ⟨_, cu15⟩ := hv
        replace h := q_be h
        obtain ⟨v16, hv, h⟩ := h
        refine ⟨⟨some _, rfl⟩, ⟨_, cu15⟩, ?_⟩
        refine rX8_fourAt hv ?_
        refine And.intro (fun hc17 => ?_) (fun hc17 => ?_)
        · replace h := q_ifp (hc17) h
          refine sX8_isChunk_77 ?_
          cases h
          exact ⟨rfl, Or.inr rfl, hk⟩
        · replace h := q_ifn (hc17) h
          replace h := q_be h
          obtain ⟨u18, hv, h⟩ := h
          replace hv := q_ob_e hv
          obtain ⟨_, cu18⟩ := hv
          replace h := q_b2_e h
          obtain ⟨v19, g20, hv, h⟩ := h
          refine ⟨⟨some _, rfl⟩, ⟨_, cu18⟩, ?_⟩
          refine rX8_fails hv ?_
          replace h := q_be h
          obtain ⟨v21, hv, h⟩ := h
          replace hv := q_bl_e hv
          obtain ⟨zv21, rfl⟩ := hv
          cases h
          exact ⟨rfl, zv21, hk⟩
      · replace h := q_ifn (hc11) h
        exact ps_weak (pjX8_isChunk_34 h hk) ⟨rfl, rfl, trivial⟩
noncomputable def jX8_takeHeader_69 (g : ps_G) : Option (Int32 × ps_G) := some ((0 : Int32), g)
theorem pjX8_takeHeader_69 {d : Nat} {Q : ps_Rs → ps_G → Prop} {g : ps_G}  {r : Int32 × ps_G} (h : jX8_takeHeader_69 g = some r) (hk : Q (.inl (some (.int r.1))) r.2) : ps_At mX8_takeHeader (d + 2) 69 [] [] g Q := by
  unfold jX8_takeHeader_69 at h
  refine sX8_takeHeader_69 ?_
  cases h
  exact ⟨rfl, Or.inl rfl, hk⟩
noncomputable def jX8_takeHeader_145 (g : ps_G) (k0 : Int32) : Option (Int32 × ps_G) := Option.bind (q_bl k0) fun v28 => some (v28, g)
theorem pjX8_takeHeader_145 {d : Nat} {Q : ps_Rs → ps_G → Prop} {g : ps_G} {k0 : Int32} {r : Int32 × ps_G} (h : jX8_takeHeader_145 g k0 = some r) (hk : Q (.inl (some (.int r.1))) r.2) : ps_At mX8_takeHeader (d + 2) 145 [] [.int k0] g Q := by
  unfold jX8_takeHeader_145 at h
  refine sX8_takeHeader_145 ?_
  replace h := q_be h
  obtain ⟨v28, hv, h⟩ := h
  replace hv := q_bl_e hv
  obtain ⟨zv28, rfl⟩ := hv
  cases h
  exact ⟨rfl, zv28, hk⟩
noncomputable def jX8_takeHeader_144 (g : ps_G) : Option (Int32 × ps_G) := jX8_takeHeader_145 g (0 : Int32)
theorem pjX8_takeHeader_144 {d : Nat} {Q : ps_Rs → ps_G → Prop} {g : ps_G}  {r : Int32 × ps_G} (h : jX8_takeHeader_144 g = some r) (hk : Q (.inl (some (.int r.1))) r.2) : ps_At mX8_takeHeader (d + 2) 144 [] [] g Q := by
  unfold jX8_takeHeader_144 at h
  refine sX8_takeHeader_144 ?_
  exact ps_weak (pjX8_takeHeader_145 h hk) trivial
noncomputable def fX8_takeHeader (g : ps_G) (x0 : Nat) (x1 : Int32) (x2 : Int32) : Option (Int32 × ps_G) := Option.bind (q_ob 8 g x0) fun u1 => Option.bind (fX8_byteAt g x0 (x1 + (9 : Int32))) fun v2 => Option.bind (q_ob 8 g x0) fun u3 => Option.bind (fX8_fourAt g x0 x1) fun v4 => Option.bind (q_sI 8 4 g x0 v4) fun g5 => Option.bind (q_ob 8 g5 x0) fun u6 => Option.bind (fX8_fourAt g5 x0 (x1 + (4 : Int32))) fun v7 => Option.bind (q_sI 8 5 g5 x0 v7) fun g8 => if ¬ x2 = (13 : Int32) then (jX8_takeHeader_69 g8) else (Option.bind (q_fI 8 4 g8 x0) fun v10 => if v10 < (1 : Int32) then (jX8_takeHeader_69 g8) else (Option.bind (q_fI 8 4 g8 x0) fun v12 => if (24 : Int32) < v12 then (jX8_takeHeader_69 g8) else (Option.bind (q_fI 8 5 g8 x0) fun v14 => if v14 < (1 : Int32) then (jX8_takeHeader_69 g8) else (Option.bind (q_fI 8 5 g8 x0) fun v16 => if v16 ≤ (24 : Int32) then (Option.bind (q_ob 8 g8 x0) fun u18 => Option.bind (fX8_byteAt g8 x0 (x1 + (8 : Int32))) fun v19 => if ¬ (¬ v19 = (8 : Int32)) ∧ (¬ ((6 : Int32) < v2) ∧ (¬ (v2 = (1 : Int32)) ∧ (¬ v2 = (5 : Int32)))) then (Option.bind (q_sI 8 6 g8 x0 v2) fun g24 => Option.bind (q_ob 8 g24 x0) fun u25 => Option.bind (fX8_byteAt g24 x0 (x1 + (10 : Int32))) fun v26 => if ¬ v26 = 0 then (jX8_takeHeader_144 g24) else (Option.bind (q_ob 8 g24 x0) fun u29 => Option.bind (fX8_byteAt g24 x0 (x1 + (11 : Int32))) fun v30 => if ¬ v30 = 0 then (jX8_takeHeader_144 g24) else (Option.bind (q_ob 8 g24 x0) fun u32 => Option.bind (fX8_byteAt g24 x0 (x1 + (12 : Int32))) fun v33 => if ¬ v33 = 0 then (jX8_takeHeader_144 g24) else (jX8_takeHeader_145 g24 (1 : Int32))))) else (some ((0 : Int32), g8))) else (jX8_takeHeader_69 g8)))))
theorem rX8_takeHeader {d : Nat} {Q : ps_Rs → ps_G → Prop} {g : ps_G} {x0 : Nat} {x1 : Int32} {x2 : Int32} {r : Int32 × ps_G} (h : fX8_takeHeader g x0 x1 x2 = some r) (hk : Q (.inl (some (.int r.1))) r.2) : ps_Ok mX8_takeHeader (d + 2) [.ref x0, .int x1, .int x2] g Q := by
  unfold fX8_takeHeader at h
  refine sX8_takeHeader_0 ?_
  replace h := q_be h
  obtain ⟨u1, hv, h⟩ := h
  replace hv := q_ob_e hv
  obtain ⟨_, cu1⟩ := hv
  replace h := q_be h
  obtain ⟨v2, hv, h⟩ := h
  refine ⟨⟨some _, rfl⟩, ⟨_, cu1⟩, ?_⟩
  refine rX8_byteAt hv ?_
  replace h := q_be h
  obtain ⟨u3, hv, h⟩ := h
  replace hv := q_ob_e hv
  obtain ⟨_, cu3⟩ := hv
  replace h := q_be h
  obtain ⟨v4, hv, h⟩ := h
  refine ⟨by decide, ⟨some _, rfl⟩, ⟨some _, rfl⟩, ⟨_, cu3⟩, ?_⟩
  refine rX8_fourAt hv ?_
  replace h := q_be h
  obtain ⟨g5, hv, h⟩ := h
  replace hv := q_sI_e hv
  obtain ⟨_, cg5, dg5, yg5⟩ := hv
  replace h := q_be h
  obtain ⟨u6, hv, h⟩ := h
  replace hv := q_ob_e hv
  obtain ⟨_, cu6⟩ := hv
  replace h := q_be h
  obtain ⟨v7, hv, h⟩ := h
  refine ⟨_, cg5, dg5, rfl, rfl, _, yg5, ⟨some _, rfl⟩, ⟨some _, rfl⟩, ⟨_, cu6⟩, ?_⟩
  refine rX8_fourAt hv ?_
  replace h := q_be h
  obtain ⟨g8, hv, h⟩ := h
  replace hv := q_sI_e hv
  obtain ⟨_, cg8, dg8, yg8⟩ := hv
  refine ⟨_, cg8, dg8, rfl, rfl, _, yg8, ?_⟩
  refine And.intro (fun hc9 => ?_) (fun hc9 => ?_)
  · replace h := q_ifp (hc9) h
    exact ps_weak (pjX8_takeHeader_69 h hk) trivial
  · replace h := q_ifn (hc9) h
    replace h := q_be h
    obtain ⟨v10, hv, h⟩ := h
    replace hv := q_fI_e hv
    obtain ⟨_, cv10, dv10⟩ := hv
    refine ⟨⟨some _, rfl⟩, _, _, cv10, dv10, ?_⟩
    refine And.intro (fun hc11 => ?_) (fun hc11 => ?_)
    · replace h := q_ifp (hc11) h
      exact ps_weak (pjX8_takeHeader_69 h hk) trivial
    · replace h := q_ifn (hc11) h
      replace h := q_be h
      obtain ⟨v12, hv, h⟩ := h
      replace hv := q_fI_e hv
      obtain ⟨_, cv12, dv12⟩ := hv
      refine ⟨⟨some _, rfl⟩, _, _, cv12, dv12, ?_⟩
      refine And.intro (fun hc13 => ?_) (fun hc13 => ?_)
      · replace h := q_ifp (hc13) h
        exact ps_weak (pjX8_takeHeader_69 h hk) trivial
      · replace h := q_ifn (hc13) h
        replace h := q_be h
        obtain ⟨v14, hv, h⟩ := h
        replace hv := q_fI_e hv
        obtain ⟨_, cv14, dv14⟩ := hv
        refine ⟨⟨some _, rfl⟩, _, _, cv14, dv14, ?_⟩
        refine And.intro (fun hc15 => ?_) (fun hc15 => ?_)
        · replace h := q_ifp (hc15) h
          exact ps_weak (pjX8_takeHeader_69 h hk) trivial
        · replace h := q_ifn (hc15) h
          replace h := q_be h
          obtain ⟨v16, hv, h⟩ := h
          replace hv := q_fI_e hv
          obtain ⟨_, cv16, dv16⟩ := hv
          refine ⟨⟨some _, rfl⟩, _, _, cv16, dv16, ?_⟩
          refine And.intro (fun hc17 => ?_) (fun hc17 => ?_)
          · replace h := q_ifp (hc17) h
            refine sX8_takeHeader_71 ?_
            replace h := q_be h
            obtain ⟨u18, hv, h⟩ := h
            replace hv := q_ob_e hv
            obtain ⟨_, cu18⟩ := hv
            replace h := q_be h
            obtain ⟨v19, hv, h⟩ := h
            refine ⟨⟨some _, rfl⟩, ⟨_, cu18⟩, ?_⟩
            refine rX8_byteAt hv ?_
            have kF42 : (some ((0 : Int32), g8)) = some r → ps_At mX8_takeHeader (d + 2) 100 [] [] g8 Q := fun h => by
              refine sX8_takeHeader_100 ?_
              cases h
              exact ⟨rfl, Or.inl rfl, hk⟩
            refine And.intro (fun hc20 => ?_) (fun hc20 => ?_)
            · exact ps_weak (kF42 (q_ifn (fun z => z.1 hc20) h)) trivial
            · refine And.intro (fun hc21 => ?_) (fun hc21 => ?_)
              · exact ps_weak (kF42 (q_ifn (fun z => (fun z => z.1 hc21) z.2) h)) trivial
              · refine And.intro (fun hc22 => ?_) (fun hc22 => ?_)
                · exact ps_weak (kF42 (q_ifn (fun z => (fun z => (fun z => z.1 hc22) z.2) z.2) h)) trivial
                · refine And.intro (fun hc23 => ?_) (fun hc23 => ?_)
                  · replace h := q_ifp (⟨hc20, ⟨hc21, ⟨hc22, hc23⟩⟩⟩) h
                    refine sX8_takeHeader_102 ?_
                    replace h := q_be h
                    obtain ⟨g24, hv, h⟩ := h
                    replace hv := q_sI_e hv
                    obtain ⟨_, cg24, dg24, yg24⟩ := hv
                    replace h := q_be h
                    obtain ⟨u25, hv, h⟩ := h
                    replace hv := q_ob_e hv
                    obtain ⟨_, cu25⟩ := hv
                    replace h := q_be h
                    obtain ⟨v26, hv, h⟩ := h
                    refine ⟨⟨some _, rfl⟩, _, cg24, dg24, rfl, rfl, _, yg24, ⟨some _, rfl⟩, ⟨_, cu25⟩, ?_⟩
                    refine rX8_byteAt hv ?_
                    refine And.intro (fun hc27 => ?_) (fun hc27 => ?_)
                    · replace h := q_ifp (hc27) h
                      exact ps_weak (pjX8_takeHeader_144 h hk) trivial
                    · replace h := q_ifn (hc27) h
                      replace h := q_be h
                      obtain ⟨u29, hv, h⟩ := h
                      replace hv := q_ob_e hv
                      obtain ⟨_, cu29⟩ := hv
                      replace h := q_be h
                      obtain ⟨v30, hv, h⟩ := h
                      refine ⟨⟨some _, rfl⟩, ⟨_, cu29⟩, ?_⟩
                      refine rX8_byteAt hv ?_
                      refine And.intro (fun hc31 => ?_) (fun hc31 => ?_)
                      · replace h := q_ifp (hc31) h
                        exact ps_weak (pjX8_takeHeader_144 h hk) trivial
                      · replace h := q_ifn (hc31) h
                        replace h := q_be h
                        obtain ⟨u32, hv, h⟩ := h
                        replace hv := q_ob_e hv
                        obtain ⟨_, cu32⟩ := hv
                        replace h := q_be h
                        obtain ⟨v33, hv, h⟩ := h
                        refine ⟨⟨some _, rfl⟩, ⟨_, cu32⟩, ?_⟩
                        refine rX8_byteAt hv ?_
                        refine And.intro (fun hc34 => ?_) (fun hc34 => ?_)
                        · replace h := q_ifp (hc34) h
                          exact ps_weak (pjX8_takeHeader_144 h hk) trivial
                        · replace h := q_ifn (hc34) h
                          exact ps_weak (pjX8_takeHeader_145 h hk) trivial
                  · exact ps_weak (kF42 (q_ifn (fun z => (fun z => (fun z => hc23 z.2) z.2) z.2) h)) trivial
          · replace h := q_ifn (hc17) h
            exact ps_weak (pjX8_takeHeader_69 h hk) trivial
noncomputable def jX8_takePalette_18 (g : ps_G) : Option (Int32 × ps_G) := some ((0 : Int32), g)
theorem pjX8_takePalette_18 {d : Nat} {Q : ps_Rs → ps_G → Prop} {g : ps_G}  {r : Int32 × ps_G} (h : jX8_takePalette_18 g = some r) (hk : Q (.inl (some (.int r.1))) r.2) : ps_At mX8_takePalette (d + 1) 18 [] [] g Q := by
  unfold jX8_takePalette_18 at h
  refine sX8_takePalette_18 ?_
  cases h
  exact ⟨rfl, Or.inl rfl, hk⟩
noncomputable def bX8_takePalette_29 (x0 : Nat) (x1 : Int32) (x3 : Int32) (g : ps_G) : Option ((Int32 × ps_G) ⊕ (ps_G)) := Option.bind (q_fI 8 8 g x0) fun v5 => if v5 ≤ x3 then (some (.inr g)) else (Option.bind (q_fR 8 7 g x0) fun v8 => Option.bind (v8) fun a9 => Option.bind (q_len g a9) fun v10 => if v10 ≤ x3 then (some (.inr g)) else (Option.bind (q_fR 8 7 g x0) fun v13 => Option.bind (v13) fun a14 => Option.bind (q_ob 8 g x0) fun u15 => Option.bind (fX8_byteAt g x0 (x1 + ((3 : Int32) * x3))) fun v16 => Option.bind (q_ob 8 g x0) fun u17 => Option.bind (fX8_byteAt g x0 ((x1 + ((3 : Int32) * x3)) + (1 : Int32))) fun v18 => Option.bind (q_ob 8 g x0) fun u19 => Option.bind (fX8_byteAt g x0 ((x1 + ((3 : Int32) * x3)) + (2 : Int32))) fun v20 => Option.bind (q_wI g a14 x3 (fX11_pack (0 : Int32) v16 v18 v20)) fun g21 => some (.inl (x3 + (1 : Int32), g21))))
theorem pbX8_takePalette_29 {d : Nat} {Q : ps_Rs → ps_G → Prop}  {x0 : Nat} {x1 : Int32} {x3 : Int32} {g : ps_G} {x : (Int32 × ps_G) ⊕ (ps_G)} (h : bX8_takePalette_29 x0 x1 x3 g = some x) (hh : ∀ s' : Int32 × ps_G, x = .inl s' → ps_At mX8_takePalette (d + 1) 29 [(0, .ref x0), (1, .int x1), (3, .int s'.1)] [] s'.2 Q) (he : ∀ r' : ps_G, x = .inr r' → ps_At mX8_takePalette (d + 1) 93 [] [] r' Q) : ps_At mX8_takePalette (d + 1) 29 [(0, .ref x0), (1, .int x1), (3, .int x3)] [] g Q := by
  unfold bX8_takePalette_29 at h
  refine sX8_takePalette_29 ?_
  replace h := q_be h
  obtain ⟨v5, hv, h⟩ := h
  replace hv := q_fI_e hv
  obtain ⟨_, cv5, dv5⟩ := hv
  refine ⟨⟨some _, rfl⟩, _, _, cv5, dv5, ?_⟩
  refine And.intro (fun hc6 => ?_) (fun hc6 => ?_)
  · replace h := q_ifp (hc6) h
    exact ps_weak (he g (Option.some.inj h).symm) trivial
  · replace h := q_ifn (hc6) h
    replace h := q_be h
    obtain ⟨v8, hv, h⟩ := h
    replace hv := q_fR_e hv
    obtain ⟨_, cv8, dv8⟩ := hv
    replace h := q_be h
    obtain ⟨a9, ea9, h⟩ := h
    subst ea9
    replace h := q_be h
    obtain ⟨v10, hv, h⟩ := h
    replace hv := q_len_e hv
    obtain ⟨_, _, cv10, qv10, yv10⟩ := hv
    refine ⟨⟨some _, rfl⟩, _, _, cv8, dv8, _, _, cv10, qv10, _, yv10, ?_⟩
    refine And.intro (fun hc11 => ?_) (fun hc11 => ?_)
    · replace h := q_ifp (hc11) h
      exact ps_weak (he g (Option.some.inj h).symm) trivial
    · replace h := q_ifn (hc11) h
      replace h := q_be h
      obtain ⟨v13, hv, h⟩ := h
      replace hv := q_fR_e hv
      obtain ⟨_, cv13, dv13⟩ := hv
      replace h := q_be h
      obtain ⟨a14, ea14, h⟩ := h
      subst ea14
      replace h := q_be h
      obtain ⟨u15, hv, h⟩ := h
      replace hv := q_ob_e hv
      obtain ⟨_, cu15⟩ := hv
      replace h := q_be h
      obtain ⟨v16, hv, h⟩ := h
      refine ⟨⟨some _, rfl⟩, _, _, cv13, dv13, ⟨some _, rfl⟩, ⟨_, cu15⟩, ?_⟩
      refine rX8_byteAt hv ?_
      replace h := q_be h
      obtain ⟨u17, hv, h⟩ := h
      replace hv := q_ob_e hv
      obtain ⟨_, cu17⟩ := hv
      replace h := q_be h
      obtain ⟨v18, hv, h⟩ := h
      refine ⟨⟨some _, rfl⟩, ⟨_, cu17⟩, ?_⟩
      refine rX8_byteAt hv ?_
      replace h := q_be h
      obtain ⟨u19, hv, h⟩ := h
      replace hv := q_ob_e hv
      obtain ⟨_, cu19⟩ := hv
      replace h := q_be h
      obtain ⟨v20, hv, h⟩ := h
      refine ⟨⟨some _, rfl⟩, ⟨_, cu19⟩, ?_⟩
      refine rX8_byteAt hv ?_
      refine rX11_pack rfl ?_
      refine sX8_takePalette_86 ?_
      replace h := q_be h
      obtain ⟨g21, hv, h⟩ := h
      replace hv := q_wI_e hv
      obtain ⟨_, _, cg21, pg21, ig21, yg21⟩ := hv
      refine ⟨_, _, cg21, pg21, ig21, _, yg21, by decide, ?_⟩
      exact ps_weak (hh (x3 + (1 : Int32), g21) (Option.some.inj h).symm) ⟨rfl, rfl, rfl, trivial⟩
noncomputable def jX8_takePalette_93 (g : ps_G) : Option (Int32 × ps_G) := some ((1 : Int32), g)
theorem pjX8_takePalette_93 {d : Nat} {Q : ps_Rs → ps_G → Prop} {g : ps_G}  {r : Int32 × ps_G} (h : jX8_takePalette_93 g = some r) (hk : Q (.inl (some (.int r.1))) r.2) : ps_At mX8_takePalette (d + 1) 93 [] [] g Q := by
  unfold jX8_takePalette_93 at h
  refine sX8_takePalette_93 ?_
  cases h
  exact ⟨rfl, Or.inr rfl, hk⟩
noncomputable def fX8_takePalette (g : ps_G) (x0 : Nat) (x1 : Int32) (x2 : Int32) : Option (Int32 × ps_G) := if (x2 < (3 : Int32)) ∨ ((768 : Int32) < x2) then (jX8_takePalette_18 g) else (if (q_rem x2 (3 : Int32)) = 0 then (Option.bind (q_sI 8 8 g x0 (x2 / (3 : Int32))) fun g4 => Option.bind (q_lp (fun s => bX8_takePalette_29 x0 x1 s.1 s.2) ((0 : Int32), g4)) fun s26 => jX8_takePalette_93 s26) else (jX8_takePalette_18 g))
theorem rX8_takePalette {d : Nat} {Q : ps_Rs → ps_G → Prop} {g : ps_G} {x0 : Nat} {x1 : Int32} {x2 : Int32} {r : Int32 × ps_G} (h : fX8_takePalette g x0 x1 x2 = some r) (hk : Q (.inl (some (.int r.1))) r.2) : ps_Ok mX8_takePalette (d + 1) [.ref x0, .int x1, .int x2] g Q := by
  unfold fX8_takePalette at h
  refine sX8_takePalette_0 ?_
  have kT29 : (jX8_takePalette_18 g) = some r → ps_At mX8_takePalette (d + 1) 18 [] [] g Q := fun h => by
    exact ps_weak (pjX8_takePalette_18 h hk) trivial
  refine And.intro (fun hc1 => ?_) (fun hc1 => ?_)
  · exact ps_weak (kT29 (q_ifp (Or.inl hc1) h)) trivial
  · refine And.intro (fun hc2 => ?_) (fun hc2 => ?_)
    · exact ps_weak (kT29 (q_ifp (Or.inr (hc2)) h)) trivial
    · replace h := q_ifn (not_or.mpr ⟨hc1, hc2⟩) h
      refine ⟨by decide, _, rfl, ?_⟩
      refine And.intro (fun hc3 => ?_) (fun hc3 => ?_)
      · replace h := q_ifp (hc3) h
        refine sX8_takePalette_20 ?_
        replace h := q_be h
        obtain ⟨g4, hv, h⟩ := h
        replace hv := q_sI_e hv
        obtain ⟨_, cg4, dg4, yg4⟩ := hv
        refine ⟨⟨some _, rfl⟩, by decide, _, rfl, _, cg4, dg4, rfl, rfl, _, yg4, by decide, ?_⟩
        replace h := q_be h
        obtain ⟨s26, hl, h⟩ := h
        refine ps_weak (q_lp_ok hl (fun s => ps_At mX8_takePalette (d + 1) 29 [(0, .ref x0), (1, .int x1), (3, .int s.1)] [] s.2 Q) (fun r => ps_At mX8_takePalette (d + 1) 93 [] [] r Q) (fun s x hb hh he => pbX8_takePalette_29 hb hh he) ?_) ⟨rfl, rfl, rfl, trivial⟩
        refine (?_ : ps_At mX8_takePalette (d + 1) 93 [] [] s26 Q)
        exact ps_weak (pjX8_takePalette_93 h hk) trivial
      · replace h := q_ifn (hc3) h
        exact ps_weak (pjX8_takePalette_18 h hk) trivial
noncomputable def bX8_takeClear_17 (x0 : Nat) (x1 : Int32) (x2 : Int32) (x3 : Int32) (g : ps_G) : Option ((Int32 × ps_G) ⊕ (ps_G)) := if x2 ≤ x3 then (some (.inr g)) else (Option.bind (q_fR 8 9 g x0) fun v6 => Option.bind (v6) fun a7 => Option.bind (q_len g a7) fun v8 => if v8 ≤ x3 then (some (.inr g)) else (Option.bind (q_fR 8 9 g x0) fun v11 => Option.bind (v11) fun a12 => Option.bind (q_ob 8 g x0) fun u13 => Option.bind (fX8_byteAt g x0 (x1 + x3)) fun v14 => Option.bind (q_wI g a12 x3 v14) fun g15 => some (.inl (x3 + (1 : Int32), g15))))
theorem pbX8_takeClear_17 {d : Nat} {Q : ps_Rs → ps_G → Prop}  {x0 : Nat} {x1 : Int32} {x2 : Int32} {x3 : Int32} {g : ps_G} {x : (Int32 × ps_G) ⊕ (ps_G)} (h : bX8_takeClear_17 x0 x1 x2 x3 g = some x) (hh : ∀ s' : Int32 × ps_G, x = .inl s' → ps_At mX8_takeClear (d + 1) 17 [(0, .ref x0), (1, .int x1), (2, .int x2), (3, .int s'.1)] [] s'.2 Q) (he : ∀ r' : ps_G, x = .inr r' → ps_At mX8_takeClear (d + 1) 50 [] [] r' Q) : ps_At mX8_takeClear (d + 1) 17 [(0, .ref x0), (1, .int x1), (2, .int x2), (3, .int x3)] [] g Q := by
  unfold bX8_takeClear_17 at h
  refine sX8_takeClear_17 ?_
  refine And.intro (fun hc4 => ?_) (fun hc4 => ?_)
  · replace h := q_ifp (hc4) h
    exact ps_weak (he g (Option.some.inj h).symm) trivial
  · replace h := q_ifn (hc4) h
    replace h := q_be h
    obtain ⟨v6, hv, h⟩ := h
    replace hv := q_fR_e hv
    obtain ⟨_, cv6, dv6⟩ := hv
    replace h := q_be h
    obtain ⟨a7, ea7, h⟩ := h
    subst ea7
    replace h := q_be h
    obtain ⟨v8, hv, h⟩ := h
    replace hv := q_len_e hv
    obtain ⟨_, _, cv8, qv8, yv8⟩ := hv
    refine ⟨⟨some _, rfl⟩, _, _, cv6, dv6, _, _, cv8, qv8, _, yv8, ?_⟩
    refine And.intro (fun hc9 => ?_) (fun hc9 => ?_)
    · replace h := q_ifp (hc9) h
      exact ps_weak (he g (Option.some.inj h).symm) trivial
    · replace h := q_ifn (hc9) h
      replace h := q_be h
      obtain ⟨v11, hv, h⟩ := h
      replace hv := q_fR_e hv
      obtain ⟨_, cv11, dv11⟩ := hv
      replace h := q_be h
      obtain ⟨a12, ea12, h⟩ := h
      subst ea12
      replace h := q_be h
      obtain ⟨u13, hv, h⟩ := h
      replace hv := q_ob_e hv
      obtain ⟨_, cu13⟩ := hv
      replace h := q_be h
      obtain ⟨v14, hv, h⟩ := h
      refine ⟨⟨some _, rfl⟩, _, _, cv11, dv11, ⟨some _, rfl⟩, ⟨_, cu13⟩, ?_⟩
      refine rX8_byteAt hv ?_
      replace h := q_be h
      obtain ⟨g15, hv, h⟩ := h
      replace hv := q_wI_e hv
      obtain ⟨_, _, cg15, pg15, ig15, yg15⟩ := hv
      refine ⟨_, _, cg15, pg15, ig15, _, yg15, by decide, ?_⟩
      exact ps_weak (hh (x3 + (1 : Int32), g15) (Option.some.inj h).symm) ⟨rfl, rfl, rfl, rfl, trivial⟩
noncomputable def jX8_takeClear_50 (g : ps_G) : Option (Int32 × ps_G) := some ((1 : Int32), g)
theorem pjX8_takeClear_50 {d : Nat} {Q : ps_Rs → ps_G → Prop} {g : ps_G}  {r : Int32 × ps_G} (h : jX8_takeClear_50 g = some r) (hk : Q (.inl (some (.int r.1))) r.2) : ps_At mX8_takeClear (d + 1) 50 [] [] g Q := by
  unfold jX8_takeClear_50 at h
  refine sX8_takeClear_50 ?_
  cases h
  exact ⟨rfl, Or.inr rfl, hk⟩
noncomputable def fX8_takeClear (g : ps_G) (x0 : Nat) (x1 : Int32) (x2 : Int32) : Option (Int32 × ps_G) := Option.bind (q_fI 8 8 g x0) fun v1 => if x2 ≤ v1 then (Option.bind (q_sI 8 10 g x0 x2) fun g3 => Option.bind (q_lp (fun s => bX8_takeClear_17 x0 x1 x2 s.1 s.2) ((0 : Int32), g3)) fun s20 => jX8_takeClear_50 s20) else (some ((0 : Int32), g))
theorem rX8_takeClear {d : Nat} {Q : ps_Rs → ps_G → Prop} {g : ps_G} {x0 : Nat} {x1 : Int32} {x2 : Int32} {r : Int32 × ps_G} (h : fX8_takeClear g x0 x1 x2 = some r) (hk : Q (.inl (some (.int r.1))) r.2) : ps_Ok mX8_takeClear (d + 1) [.ref x0, .int x1, .int x2] g Q := by
  unfold fX8_takeClear at h
  refine sX8_takeClear_0 ?_
  replace h := q_be h
  obtain ⟨v1, hv, h⟩ := h
  replace hv := q_fI_e hv
  obtain ⟨_, cv1, dv1⟩ := hv
  refine ⟨⟨some _, rfl⟩, _, _, cv1, dv1, ?_⟩
  refine And.intro (fun hc2 => ?_) (fun hc2 => ?_)
  · replace h := q_ifp (hc2) h
    refine sX8_takeClear_10 ?_
    replace h := q_be h
    obtain ⟨g3, hv, h⟩ := h
    replace hv := q_sI_e hv
    obtain ⟨_, cg3, dg3, yg3⟩ := hv
    refine ⟨⟨some _, rfl⟩, _, cg3, dg3, rfl, rfl, _, yg3, by decide, ?_⟩
    replace h := q_be h
    obtain ⟨s20, hl, h⟩ := h
    refine ps_weak (q_lp_ok hl (fun s => ps_At mX8_takeClear (d + 1) 17 [(0, .ref x0), (1, .int x1), (2, .int x2), (3, .int s.1)] [] s.2 Q) (fun r => ps_At mX8_takeClear (d + 1) 50 [] [] r Q) (fun s x hb hh he => pbX8_takeClear_17 hb hh he) ?_) ⟨rfl, rfl, rfl, rfl, trivial⟩
    refine (?_ : ps_At mX8_takeClear (d + 1) 50 [] [] s20 Q)
    exact ps_weak (pjX8_takeClear_50 h hk) trivial
  · replace h := q_ifn (hc2) h
    cases h
    exact ⟨rfl, Or.inl rfl, hk⟩
noncomputable def jX2_addByte_30 (g : ps_G) : Option (ps_G) := some g
theorem pjX2_addByte_30 {d : Nat} {Q : ps_Rs → ps_G → Prop} {g : ps_G}  {r : ps_G} (h : jX2_addByte_30 g = some r) (hk : Q (.inl none) r) : ps_At mX2_addByte d 30 [] [] g Q := by
  unfold jX2_addByte_30 at h
  refine sX2_addByte_30 ?_
  cases h
  exact ⟨rfl, rfl, hk⟩
noncomputable def fX2_addByte (g : ps_G) (x0 : Nat) (x1 : Int32) : Option (ps_G) := Option.bind (q_fI 2 1 g x0) fun v1 => if (8000 : Int32) ≤ v1 then (jX2_addByte_30 g) else (Option.bind (q_fR 2 0 g x0) fun v4 => Option.bind (v4) fun a5 => Option.bind (q_fI 2 1 g x0) fun v6 => Option.bind (q_wI g a5 v6 x1) fun g7 => Option.bind (q_fI 2 1 g7 x0) fun v8 => Option.bind (q_sI 2 1 g7 x0 (v8 + (1 : Int32))) fun g9 => jX2_addByte_30 g9)
theorem rX2_addByte {d : Nat} {Q : ps_Rs → ps_G → Prop} {g : ps_G} {x0 : Nat} {x1 : Int32} {r : ps_G} (h : fX2_addByte g x0 x1 = some r) (hk : Q (.inl none) r) : ps_Ok mX2_addByte d [.ref x0, .int x1] g Q := by
  unfold fX2_addByte at h
  refine sX2_addByte_0 ?_
  replace h := q_be h
  obtain ⟨v1, hv, h⟩ := h
  replace hv := q_fI_e hv
  obtain ⟨_, cv1, dv1⟩ := hv
  refine ⟨⟨some _, rfl⟩, _, _, cv1, dv1, ?_⟩
  refine And.intro (fun hc2 => ?_) (fun hc2 => ?_)
  · replace h := q_ifp (hc2) h
    exact ps_weak (pjX2_addByte_30 h hk) trivial
  · replace h := q_ifn (hc2) h
    replace h := q_be h
    obtain ⟨v4, hv, h⟩ := h
    replace hv := q_fR_e hv
    obtain ⟨_, cv4, dv4⟩ := hv
    replace h := q_be h
    obtain ⟨a5, ea5, h⟩ := h
    subst ea5
    replace h := q_be h
    obtain ⟨v6, hv, h⟩ := h
    replace hv := q_fI_e hv
    obtain ⟨_, cv6, dv6⟩ := hv
    replace h := q_be h
    obtain ⟨g7, hv, h⟩ := h
    replace hv := q_wI_e hv
    obtain ⟨_, _, cg7, pg7, ig7, yg7⟩ := hv
    replace h := q_be h
    obtain ⟨v8, hv, h⟩ := h
    replace hv := q_fI_e hv
    obtain ⟨_, cv8, dv8⟩ := hv
    replace h := q_be h
    obtain ⟨g9, hv, h⟩ := h
    replace hv := q_sI_e hv
    obtain ⟨_, cg9, dg9, yg9⟩ := hv
    refine ⟨⟨some _, rfl⟩, _, _, cv4, dv4, ⟨some _, rfl⟩, _, _, cv6, dv6, _, _, cg7, pg7, ig7, _, yg7, ⟨some _, rfl⟩, rfl, _, _, cv8, dv8, _, cg9, dg9, rfl, rfl, _, yg9, ?_⟩
    exact ps_weak (pjX2_addByte_30 h hk) trivial
noncomputable def jX8_takeChunk_212 (g : ps_G) : Option (Int32 × ps_G) := some ((1 : Int32), g)
theorem pjX8_takeChunk_212 {d : Nat} {Q : ps_Rs → ps_G → Prop} {g : ps_G}  {r : Int32 × ps_G} (h : jX8_takeChunk_212 g = some r) (hk : Q (.inl (some (.int r.1))) r.2) : ps_At mX8_takeChunk (d + 3) 212 [] [] g Q := by
  unfold jX8_takeChunk_212 at h
  refine sX8_takeChunk_212 ?_
  cases h
  exact ⟨rfl, Or.inr rfl, hk⟩
noncomputable def bX8_takeChunk_182 (x0 : Nat) (x1 : Int32) (x2 : Int32) (x4 : Int32) (g : ps_G) : Option ((Int32 × ps_G) ⊕ (ps_G)) := if x2 ≤ x4 then (some (.inr g)) else (Option.bind (q_fR 8 12 g x0) fun v25 => Option.bind (v25) fun a26 => Option.bind (q_ob 8 g x0) fun u27 => Option.bind (fX8_byteAt g x0 ((x1 + (8 : Int32)) + x4)) fun v28 => Option.bind (q_ob 2 g a26) fun u29 => Option.bind (fX2_addByte g a26 v28) fun v30 => some (.inl (x4 + (1 : Int32), v30)))
theorem pbX8_takeChunk_182 {d : Nat} {Q : ps_Rs → ps_G → Prop}  {x0 : Nat} {x1 : Int32} {x2 : Int32} {x4 : Int32} {g : ps_G} {x : (Int32 × ps_G) ⊕ (ps_G)} (h : bX8_takeChunk_182 x0 x1 x2 x4 g = some x) (hh : ∀ s' : Int32 × ps_G, x = .inl s' → ps_At mX8_takeChunk (d + 3) 182 [(0, .ref x0), (1, .int x1), (2, .int x2), (4, .int s'.1)] [] s'.2 Q) (he : ∀ r' : ps_G, x = .inr r' → ps_At mX8_takeChunk (d + 3) 212 [] [] r' Q) : ps_At mX8_takeChunk (d + 3) 182 [(0, .ref x0), (1, .int x1), (2, .int x2), (4, .int x4)] [] g Q := by
  unfold bX8_takeChunk_182 at h
  refine sX8_takeChunk_182 ?_
  refine And.intro (fun hc23 => ?_) (fun hc23 => ?_)
  · replace h := q_ifp (hc23) h
    exact ps_weak (he g (Option.some.inj h).symm) trivial
  · replace h := q_ifn (hc23) h
    replace h := q_be h
    obtain ⟨v25, hv, h⟩ := h
    replace hv := q_fR_e hv
    obtain ⟨_, cv25, dv25⟩ := hv
    replace h := q_be h
    obtain ⟨a26, ea26, h⟩ := h
    subst ea26
    replace h := q_be h
    obtain ⟨u27, hv, h⟩ := h
    replace hv := q_ob_e hv
    obtain ⟨_, cu27⟩ := hv
    replace h := q_be h
    obtain ⟨v28, hv, h⟩ := h
    refine ⟨⟨some _, rfl⟩, _, _, cv25, dv25, ⟨some _, rfl⟩, ⟨_, cu27⟩, ?_⟩
    refine rX8_byteAt hv ?_
    replace h := q_be h
    obtain ⟨u29, hv, h⟩ := h
    replace hv := q_ob_e hv
    obtain ⟨_, cu29⟩ := hv
    replace h := q_be h
    obtain ⟨v30, hv, h⟩ := h
    refine ⟨⟨_, cu29⟩, ?_⟩
    refine rX2_addByte hv ?_
    refine ⟨by decide, ?_⟩
    exact ps_weak (hh (x4 + (1 : Int32), v30) (Option.some.inj h).symm) ⟨rfl, rfl, rfl, rfl, trivial⟩
noncomputable def jX8_takeChunk_176 (g : ps_G) (x0 : Nat) (x1 : Int32) (x2 : Int32) (k0 : Nat) (k1 : Int32) : Option (Int32 × ps_G) := Option.bind (q_sI 8 11 g k0 k1) fun g22 => Option.bind (q_lp (fun s => bX8_takeChunk_182 x0 x1 x2 s.1 s.2) ((0 : Int32), g22)) fun s33 => jX8_takeChunk_212 s33
theorem pjX8_takeChunk_176 {d : Nat} {Q : ps_Rs → ps_G → Prop} {g : ps_G} {x0 : Nat} {x1 : Int32} {x2 : Int32} {k0 : Nat} {k1 : Int32} {r : Int32 × ps_G} (h : jX8_takeChunk_176 g x0 x1 x2 k0 k1 = some r) (hk : Q (.inl (some (.int r.1))) r.2) : ps_At mX8_takeChunk (d + 3) 176 [(0, .ref x0), (1, .int x1), (2, .int x2)] [.int k1, .ref k0] g Q := by
  unfold jX8_takeChunk_176 at h
  refine sX8_takeChunk_176 ?_
  replace h := q_be h
  obtain ⟨g22, hv, h⟩ := h
  replace hv := q_sI_e hv
  obtain ⟨_, cg22, dg22, yg22⟩ := hv
  refine ⟨_, cg22, dg22, rfl, rfl, _, yg22, by decide, ?_⟩
  replace h := q_be h
  obtain ⟨s33, hl, h⟩ := h
  refine ps_weak (q_lp_ok hl (fun s => ps_At mX8_takeChunk (d + 3) 182 [(0, .ref x0), (1, .int x1), (2, .int x2), (4, .int s.1)] [] s.2 Q) (fun r => ps_At mX8_takeChunk (d + 3) 212 [] [] r Q) (fun s x hb hh he => pbX8_takeChunk_182 hb hh he) ?_) ⟨rfl, rfl, rfl, rfl, trivial⟩
  refine (?_ : ps_At mX8_takeChunk (d + 3) 212 [] [] s33 Q)
  exact ps_weak (pjX8_takeChunk_212 h hk) trivial
noncomputable def jX8_takeChunk_154 (g : ps_G) (x0 : Nat) (x1 : Int32) (x2 : Int32) (x3 : Int32) : Option (Int32 × ps_G) := if ¬ x3 = (1229209940 : Int32) then (jX8_takeChunk_212 g) else (Option.bind (q_fI 8 11 g x0) fun v18 => if 0 ≤ v18 then (Option.bind (q_fI 8 11 g x0) fun v21 => jX8_takeChunk_176 g x0 x1 x2 x0 v21) else (jX8_takeChunk_176 g x0 x1 x2 x0 x1))
theorem pjX8_takeChunk_154 {d : Nat} {Q : ps_Rs → ps_G → Prop} {g : ps_G} {x0 : Nat} {x1 : Int32} {x2 : Int32} {x3 : Int32} {r : Int32 × ps_G} (h : jX8_takeChunk_154 g x0 x1 x2 x3 = some r) (hk : Q (.inl (some (.int r.1))) r.2) : ps_At mX8_takeChunk (d + 3) 154 [(0, .ref x0), (1, .int x1), (2, .int x2), (3, .int x3)] [] g Q := by
  unfold jX8_takeChunk_154 at h
  refine sX8_takeChunk_154 ?_
  refine And.intro (fun hc16 => ?_) (fun hc16 => ?_)
  · replace h := q_ifp (hc16) h
    exact ps_weak (pjX8_takeChunk_212 h hk) trivial
  · replace h := q_ifn (hc16) h
    replace h := q_be h
    obtain ⟨v18, hv, h⟩ := h
    replace hv := q_fI_e hv
    obtain ⟨_, cv18, dv18⟩ := hv
    refine ⟨⟨some _, rfl⟩, ⟨some _, rfl⟩, _, _, cv18, dv18, ?_⟩
    refine And.intro (fun hc19 => ?_) (fun hc19 => ?_)
    · replace h := q_ifp (hc19) h
      refine sX8_takeChunk_172 ?_
      replace h := q_be h
      obtain ⟨v21, hv, h⟩ := h
      replace hv := q_fI_e hv
      obtain ⟨_, cv21, dv21⟩ := hv
      refine ⟨⟨some _, rfl⟩, _, _, cv21, dv21, ?_⟩
      exact ps_weak (pjX8_takeChunk_176 h hk) ⟨rfl, rfl, rfl, trivial⟩
    · replace h := q_ifn (hc19) h
      exact ps_weak (pjX8_takeChunk_176 h hk) ⟨rfl, rfl, rfl, trivial⟩
noncomputable def jX8_takeChunk_153 (g : ps_G) (k0 : Int32) : Option (Int32 × ps_G) := Option.bind (q_bl k0) fun v44 => some (v44, g)
theorem pjX8_takeChunk_153 {d : Nat} {Q : ps_Rs → ps_G → Prop} {g : ps_G} {k0 : Int32} {r : Int32 × ps_G} (h : jX8_takeChunk_153 g k0 = some r) (hk : Q (.inl (some (.int r.1))) r.2) : ps_At mX8_takeChunk (d + 3) 153 [] [.int k0] g Q := by
  unfold jX8_takeChunk_153 at h
  refine sX8_takeChunk_153 ?_
  replace h := q_be h
  obtain ⟨v44, hv, h⟩ := h
  replace hv := q_bl_e hv
  obtain ⟨zv44, rfl⟩ := hv
  cases h
  exact ⟨rfl, zv44, hk⟩
noncomputable def jX8_takeChunk_148 (g : ps_G) : Option (Int32 × ps_G) := jX8_takeChunk_153 g (1 : Int32)
theorem pjX8_takeChunk_148 {d : Nat} {Q : ps_Rs → ps_G → Prop} {g : ps_G}  {r : Int32 × ps_G} (h : jX8_takeChunk_148 g = some r) (hk : Q (.inl (some (.int r.1))) r.2) : ps_At mX8_takeChunk (d + 3) 148 [] [] g Q := by
  unfold jX8_takeChunk_148 at h
  refine sX8_takeChunk_148 ?_
  exact ps_weak (pjX8_takeChunk_153 h hk) trivial
noncomputable def jX8_takeChunk_112 (g : ps_G) (k0 : Int32) : Option (Int32 × ps_G) := Option.bind (q_bl k0) fun v61 => some (v61, g)
theorem pjX8_takeChunk_112 {d : Nat} {Q : ps_Rs → ps_G → Prop} {g : ps_G} {k0 : Int32} {r : Int32 × ps_G} (h : jX8_takeChunk_112 g k0 = some r) (hk : Q (.inl (some (.int r.1))) r.2) : ps_At mX8_takeChunk (d + 3) 112 [] [.int k0] g Q := by
  unfold jX8_takeChunk_112 at h
  refine sX8_takeChunk_112 ?_
  replace h := q_be h
  obtain ⟨v61, hv, h⟩ := h
  replace hv := q_bl_e hv
  obtain ⟨zv61, rfl⟩ := hv
  cases h
  exact ⟨rfl, zv61, hk⟩
noncomputable def jX8_takeChunk_107 (g : ps_G) : Option (Int32 × ps_G) := jX8_takeChunk_112 g (1 : Int32)
theorem pjX8_takeChunk_107 {d : Nat} {Q : ps_Rs → ps_G → Prop} {g : ps_G}  {r : Int32 × ps_G} (h : jX8_takeChunk_107 g = some r) (hk : Q (.inl (some (.int r.1))) r.2) : ps_At mX8_takeChunk (d + 3) 107 [] [] g Q := by
  unfold jX8_takeChunk_107 at h
  refine sX8_takeChunk_107 ?_
  exact ps_weak (pjX8_takeChunk_112 h hk) trivial
noncomputable def jX8_takeChunk_79 (g : ps_G) (k0 : Int32) : Option (Int32 × ps_G) := Option.bind (q_bl k0) fun v76 => some (v76, g)
theorem pjX8_takeChunk_79 {d : Nat} {Q : ps_Rs → ps_G → Prop} {g : ps_G} {k0 : Int32} {r : Int32 × ps_G} (h : jX8_takeChunk_79 g k0 = some r) (hk : Q (.inl (some (.int r.1))) r.2) : ps_At mX8_takeChunk (d + 3) 79 [] [.int k0] g Q := by
  unfold jX8_takeChunk_79 at h
  refine sX8_takeChunk_79 ?_
  replace h := q_be h
  obtain ⟨v76, hv, h⟩ := h
  replace hv := q_bl_e hv
  obtain ⟨zv76, rfl⟩ := hv
  cases h
  exact ⟨rfl, zv76, hk⟩
noncomputable def jX8_takeChunk_74 (g : ps_G) : Option (Int32 × ps_G) := jX8_takeChunk_79 g (1 : Int32)
theorem pjX8_takeChunk_74 {d : Nat} {Q : ps_Rs → ps_G → Prop} {g : ps_G}  {r : Int32 × ps_G} (h : jX8_takeChunk_74 g = some r) (hk : Q (.inl (some (.int r.1))) r.2) : ps_At mX8_takeChunk (d + 3) 74 [] [] g Q := by
  unfold jX8_takeChunk_74 at h
  refine sX8_takeChunk_74 ?_
  exact ps_weak (pjX8_takeChunk_79 h hk) trivial
noncomputable def fX8_takeChunk (g : ps_G) (x0 : Nat) (x1 : Int32) : Option (Int32 × ps_G) := Option.bind (q_ob 8 g x0) fun u1 => Option.bind (fX8_fourAt g x0 x1) fun v2 => Option.bind (q_ob 8 g x0) fun u3 => Option.bind (fX8_fourAt g x0 (x1 + (4 : Int32))) fun v4 => Option.bind (q_fI 8 6 g x0) fun v5 => if (if 0 ≤ v5 then (0 : Int32) else (1 : Int32)) = (if ¬ v4 = (1229472850 : Int32) then (0 : Int32) else (1 : Int32)) then (if ¬ v4 = (1229472850 : Int32) then (if ¬ v4 = (1347179589 : Int32) then (if ¬ v4 = (1951551059 : Int32) then (jX8_takeChunk_154 g x0 x1 v2 v4) else (Option.bind (q_fI 8 6 g x0) fun v38 => if ¬ v38 = (3 : Int32) then (jX8_takeChunk_154 g x0 x1 v2 v4) else (Option.bind (q_ob 8 g x0) fun u40 => q_b2 (fX8_takeClear g x0 (x1 + (8 : Int32)) v2) fun v41 g42 => if ¬ v41 = 0 then (jX8_takeChunk_148 g42) else (Option.bind (q_ob 8 g42 x0) fun u45 => q_b2 (fX8_fails g42 x0 (4 : Int32) x1) fun v46 g47 => if v46 = 0 then (jX8_takeChunk_153 g47 (0 : Int32)) else (jX8_takeChunk_148 g47))))) else (Option.bind (q_ob 8 g x0) fun u57 => q_b2 (fX8_takePalette g x0 (x1 + (8 : Int32)) v2) fun v58 g59 => if ¬ v58 = 0 then (jX8_takeChunk_107 g59) else (Option.bind (q_ob 8 g59 x0) fun u62 => q_b2 (fX8_fails g59 x0 (4 : Int32) x1) fun v63 g64 => if v63 = 0 then (jX8_takeChunk_112 g64 (0 : Int32)) else (jX8_takeChunk_107 g64)))) else (Option.bind (q_ob 8 g x0) fun u72 => q_b2 (fX8_takeHeader g x0 (x1 + (8 : Int32)) v2) fun v73 g74 => if ¬ v73 = 0 then (jX8_takeChunk_74 g74) else (Option.bind (q_ob 8 g74 x0) fun u77 => q_b2 (fX8_fails g74 x0 (3 : Int32) x1) fun v78 g79 => if v78 = 0 then (jX8_takeChunk_79 g79 (0 : Int32)) else (jX8_takeChunk_74 g79)))) else (Option.bind (q_ob 8 g x0) fun u87 => q_b2 (fX8_fails g x0 (3 : Int32) x1) fun v88 g89 => Option.bind (q_bl v88) fun v90 => some (v90, g89))
theorem rX8_takeChunk {d : Nat} {Q : ps_Rs → ps_G → Prop} {g : ps_G} {x0 : Nat} {x1 : Int32} {r : Int32 × ps_G} (h : fX8_takeChunk g x0 x1 = some r) (hk : Q (.inl (some (.int r.1))) r.2) : ps_Ok mX8_takeChunk (d + 3) [.ref x0, .int x1] g Q := by
  unfold fX8_takeChunk at h
  refine sX8_takeChunk_0 ?_
  replace h := q_be h
  obtain ⟨u1, hv, h⟩ := h
  replace hv := q_ob_e hv
  obtain ⟨_, cu1⟩ := hv
  replace h := q_be h
  obtain ⟨v2, hv, h⟩ := h
  refine ⟨⟨some _, rfl⟩, ⟨_, cu1⟩, ?_⟩
  refine rX8_fourAt hv ?_
  replace h := q_be h
  obtain ⟨u3, hv, h⟩ := h
  replace hv := q_ob_e hv
  obtain ⟨_, cu3⟩ := hv
  replace h := q_be h
  obtain ⟨v4, hv, h⟩ := h
  refine ⟨by decide, ⟨some _, rfl⟩, ⟨_, cu3⟩, ?_⟩
  refine rX8_fourAt hv ?_
  replace h := q_be h
  obtain ⟨v5, hv, h⟩ := h
  replace hv := q_fI_e hv
  obtain ⟨_, cv5, dv5⟩ := hv
  have kJ8 : ∀ w7 : Int32, w7 = (if 0 ≤ v5 then (0 : Int32) else (1 : Int32)) → ps_At mX8_takeChunk (d + 3) 26 [(0, .ref x0), (1, .int x1), (2, .int v2), (3, .int v4)] [.int w7] g Q := by
    rintro _ rfl
    refine sX8_takeChunk_26 ?_
    have kJ11 : ∀ w10 : Int32, w10 = (if ¬ v4 = (1229472850 : Int32) then (0 : Int32) else (1 : Int32)) → ps_At mX8_takeChunk (d + 3) 37 [(0, .ref x0), (1, .int x1), (2, .int v2), (3, .int v4)] [.int w10, .int (if 0 ≤ v5 then (0 : Int32) else (1 : Int32))] g Q := by
      rintro _ rfl
      refine sX8_takeChunk_37 ?_
      refine And.intro (fun hc12 => ?_) (fun hc12 => ?_)
      · replace h := q_ifp (hc12) h
        refine sX8_takeChunk_47 ?_
        refine And.intro (fun hc13 => ?_) (fun hc13 => ?_)
        · replace h := q_ifp (hc13) h
          refine sX8_takeChunk_80 ?_
          refine And.intro (fun hc14 => ?_) (fun hc14 => ?_)
          · replace h := q_ifp (hc14) h
            refine sX8_takeChunk_113 ?_
            refine And.intro (fun hc15 => ?_) (fun hc15 => ?_)
            · replace h := q_ifp (hc15) h
              exact ps_weak (pjX8_takeChunk_154 h hk) ⟨rfl, rfl, rfl, rfl, trivial⟩
            · replace h := q_ifn (hc15) h
              replace h := q_be h
              obtain ⟨v38, hv, h⟩ := h
              replace hv := q_fI_e hv
              obtain ⟨_, cv38, dv38⟩ := hv
              refine ⟨⟨some _, rfl⟩, _, _, cv38, dv38, ?_⟩
              refine And.intro (fun hc39 => ?_) (fun hc39 => ?_)
              · replace h := q_ifp (hc39) h
                exact ps_weak (pjX8_takeChunk_154 h hk) ⟨rfl, rfl, rfl, rfl, trivial⟩
              · replace h := q_ifn (hc39) h
                replace h := q_be h
                obtain ⟨u40, hv, h⟩ := h
                replace hv := q_ob_e hv
                obtain ⟨_, cu40⟩ := hv
                replace h := q_b2_e h
                obtain ⟨v41, g42, hv, h⟩ := h
                refine ⟨⟨some _, rfl⟩, ⟨_, cu40⟩, ?_⟩
                refine rX8_takeClear hv ?_
                refine And.intro (fun hc43 => ?_) (fun hc43 => ?_)
                · replace h := q_ifp (hc43) h
                  exact ps_weak (pjX8_takeChunk_148 h hk) trivial
                · replace h := q_ifn (hc43) h
                  replace h := q_be h
                  obtain ⟨u45, hv, h⟩ := h
                  replace hv := q_ob_e hv
                  obtain ⟨_, cu45⟩ := hv
                  replace h := q_b2_e h
                  obtain ⟨v46, g47, hv, h⟩ := h
                  refine ⟨⟨some _, rfl⟩, ⟨_, cu45⟩, ?_⟩
                  refine rX8_fails hv ?_
                  refine And.intro (fun hc48 => ?_) (fun hc48 => ?_)
                  · replace h := q_ifp (hc48) h
                    refine sX8_takeChunk_152 ?_
                    exact ps_weak (pjX8_takeChunk_153 h hk) trivial
                  · replace h := q_ifn (hc48) h
                    exact ps_weak (pjX8_takeChunk_148 h hk) trivial
          · replace h := q_ifn (hc14) h
            replace h := q_be h
            obtain ⟨u57, hv, h⟩ := h
            replace hv := q_ob_e hv
            obtain ⟨_, cu57⟩ := hv
            replace h := q_b2_e h
            obtain ⟨v58, g59, hv, h⟩ := h
            refine ⟨⟨some _, rfl⟩, ⟨_, cu57⟩, ?_⟩
            refine rX8_takePalette hv ?_
            refine And.intro (fun hc60 => ?_) (fun hc60 => ?_)
            · replace h := q_ifp (hc60) h
              exact ps_weak (pjX8_takeChunk_107 h hk) trivial
            · replace h := q_ifn (hc60) h
              replace h := q_be h
              obtain ⟨u62, hv, h⟩ := h
              replace hv := q_ob_e hv
              obtain ⟨_, cu62⟩ := hv
              replace h := q_b2_e h
              obtain ⟨v63, g64, hv, h⟩ := h
              refine ⟨⟨some _, rfl⟩, ⟨_, cu62⟩, ?_⟩
              refine rX8_fails hv ?_
              refine And.intro (fun hc65 => ?_) (fun hc65 => ?_)
              · replace h := q_ifp (hc65) h
                refine sX8_takeChunk_111 ?_
                exact ps_weak (pjX8_takeChunk_112 h hk) trivial
              · replace h := q_ifn (hc65) h
                exact ps_weak (pjX8_takeChunk_107 h hk) trivial
        · replace h := q_ifn (hc13) h
          replace h := q_be h
          obtain ⟨u72, hv, h⟩ := h
          replace hv := q_ob_e hv
          obtain ⟨_, cu72⟩ := hv
          replace h := q_b2_e h
          obtain ⟨v73, g74, hv, h⟩ := h
          refine ⟨⟨some _, rfl⟩, ⟨_, cu72⟩, ?_⟩
          refine rX8_takeHeader hv ?_
          refine And.intro (fun hc75 => ?_) (fun hc75 => ?_)
          · replace h := q_ifp (hc75) h
            exact ps_weak (pjX8_takeChunk_74 h hk) trivial
          · replace h := q_ifn (hc75) h
            replace h := q_be h
            obtain ⟨u77, hv, h⟩ := h
            replace hv := q_ob_e hv
            obtain ⟨_, cu77⟩ := hv
            replace h := q_b2_e h
            obtain ⟨v78, g79, hv, h⟩ := h
            refine ⟨⟨some _, rfl⟩, ⟨_, cu77⟩, ?_⟩
            refine rX8_fails hv ?_
            refine And.intro (fun hc80 => ?_) (fun hc80 => ?_)
            · replace h := q_ifp (hc80) h
              refine sX8_takeChunk_78 ?_
              exact ps_weak (pjX8_takeChunk_79 h hk) trivial
            · replace h := q_ifn (hc80) h
              exact ps_weak (pjX8_takeChunk_74 h hk) trivial
      · replace h := q_ifn (hc12) h
        replace h := q_be h
        obtain ⟨u87, hv, h⟩ := h
        replace hv := q_ob_e hv
        obtain ⟨_, cu87⟩ := hv
        replace h := q_b2_e h
        obtain ⟨v88, g89, hv, h⟩ := h
        refine ⟨⟨some _, rfl⟩, ⟨_, cu87⟩, ?_⟩
        refine rX8_fails hv ?_
        replace h := q_be h
        obtain ⟨v90, hv, h⟩ := h
        replace hv := q_bl_e hv
        obtain ⟨zv90, rfl⟩ := hv
        cases h
        exact ⟨rfl, zv90, hk⟩
    refine And.intro (fun hc9 => ?_) (fun hc9 => ?_)
    · refine sX8_takeChunk_36 ?_
      exact ps_weak (kJ11 _ (if_pos (hc9)).symm) ⟨rfl, rfl, rfl, rfl, trivial⟩
    · exact ps_weak (kJ11 _ (if_neg (hc9)).symm) ⟨rfl, rfl, rfl, rfl, trivial⟩
  refine ⟨by decide, ⟨some _, rfl⟩, _, _, cv5, dv5, ?_⟩
  refine And.intro (fun hc6 => ?_) (fun hc6 => ?_)
  · refine sX8_takeChunk_25 ?_
    exact ps_weak (kJ8 _ (if_pos (hc6)).symm) ⟨rfl, rfl, rfl, rfl, trivial⟩
  · exact ps_weak (kJ8 _ (if_neg (hc6)).symm) ⟨rfl, rfl, rfl, rfl, trivial⟩
noncomputable def jX8_channels_38 (g : ps_G) (k0 : Int32) : Option (Int32) := some k0
theorem pjX8_channels_38 {d : Nat} {Q : ps_Rs → ps_G → Prop} {g : ps_G} {k0 : Int32} {r : Int32} (h : jX8_channels_38 g k0 = some r) (hk : Q (.inl (some (.int r))) g) : ps_At mX8_channels d 38 [] [.int k0] g Q := by
  unfold jX8_channels_38 at h
  refine sX8_channels_38 ?_
  cases h
  exact ⟨rfl, hk⟩
noncomputable def fX8_channels (g : ps_G) (x0 : Nat) : Option (Int32) := Option.bind (q_fI 8 6 g x0) fun v1 => if ¬ v1 = (2 : Int32) then (Option.bind (q_fI 8 6 g x0) fun v4 => if ¬ v4 = (4 : Int32) then (Option.bind (q_fI 8 6 g x0) fun v7 => jX8_channels_38 g (if ¬ v7 = (6 : Int32) then (1 : Int32) else (4 : Int32))) else (jX8_channels_38 g (2 : Int32))) else (jX8_channels_38 g (3 : Int32))
theorem rX8_channels {d : Nat} {Q : ps_Rs → ps_G → Prop} {g : ps_G} {x0 : Nat} {r : Int32} (h : fX8_channels g x0 = some r) (hk : Q (.inl (some (.int r))) g) : ps_Ok mX8_channels d [.ref x0] g Q := by
  unfold fX8_channels at h
  refine sX8_channels_0 ?_
  replace h := q_be h
  obtain ⟨v1, hv, h⟩ := h
  replace hv := q_fI_e hv
  obtain ⟨_, cv1, dv1⟩ := hv
  refine ⟨⟨some _, rfl⟩, _, _, cv1, dv1, ?_⟩
  refine And.intro (fun hc2 => ?_) (fun hc2 => ?_)
  · replace h := q_ifp (hc2) h
    refine sX8_channels_12 ?_
    replace h := q_be h
    obtain ⟨v4, hv, h⟩ := h
    replace hv := q_fI_e hv
    obtain ⟨_, cv4, dv4⟩ := hv
    refine ⟨⟨some _, rfl⟩, _, _, cv4, dv4, ?_⟩
    refine And.intro (fun hc5 => ?_) (fun hc5 => ?_)
    · replace h := q_ifp (hc5) h
      refine sX8_channels_24 ?_
      replace h := q_be h
      obtain ⟨v7, hv, h⟩ := h
      replace hv := q_fI_e hv
      obtain ⟨_, cv7, dv7⟩ := hv
      have kJ10 : ∀ w9 : Int32, w9 = (if ¬ v7 = (6 : Int32) then (1 : Int32) else (4 : Int32)) → ps_At mX8_channels d 38 [] [.int w9] g Q := by
        rintro _ rfl
        exact ps_weak (pjX8_channels_38 h hk) trivial
      refine ⟨⟨some _, rfl⟩, _, _, cv7, dv7, ?_⟩
      refine And.intro (fun hc8 => ?_) (fun hc8 => ?_)
      · refine sX8_channels_37 ?_
        exact ps_weak (kJ10 _ (if_pos (hc8)).symm) trivial
      · exact ps_weak (kJ10 _ (if_neg (hc8)).symm) trivial
    · replace h := q_ifn (hc5) h
      exact ps_weak (pjX8_channels_38 h hk) trivial
  · replace h := q_ifn (hc2) h
    exact ps_weak (pjX8_channels_38 h hk) trivial
noncomputable def jX2_readBits_32_4 (g : ps_G) (x0 : Nat) : Option ((Int32 × Int32 × ps_G) ⊕ ((Int32 × ps_G) ⊕ (Int32 × ps_G))) := Option.bind (q_sB 2 3 g x0 (1 : Int32)) fun g5 => some (.inr (.inr ((0 : Int32), g5)))
theorem pjX2_readBits_32_4 {d : Nat} {Q : ps_Rs → ps_G → Prop} {g : ps_G} {x0 : Nat} {x1 : Int32} {x : (Int32 × Int32 × ps_G) ⊕ ((Int32 × ps_G) ⊕ (Int32 × ps_G))} (h : jX2_readBits_32_4 g x0 = some x) (hh : ∀ s' : Int32 × Int32 × ps_G, x = .inl s' → ps_At mX2_readBits d 4 [(0, .ref x0), (1, .int x1), (2, .int s'.1), (3, .int s'.2.1)] [] s'.2.2 Q) (he : ∀ r' : Int32 × ps_G, x = .inr (.inl r') → ps_At mX2_readBits d 81 [(2, .int r'.1)] [] r'.2 Q) (hr : ∀ v' : Int32 × ps_G, x = .inr (.inr v') → Q (.inl (some (.int v'.1))) v'.2) : ps_At mX2_readBits d 32 [(0, .ref x0)] [] g Q := by
  unfold jX2_readBits_32_4 at h
  refine sX2_readBits_32 ?_
  replace h := q_be h
  obtain ⟨g5, hv, h⟩ := h
  replace hv := q_sB_e hv
  obtain ⟨_, cg5, dg5, ng5, yg5⟩ := hv
  exact ⟨⟨some _, rfl⟩, _, cg5, dg5, ng5.1, ng5.2, _, yg5, rfl, hr ((0 : Int32), g5) (Option.some.inj h).symm⟩
noncomputable def bX2_readBits_4 (x0 : Nat) (x1 : Int32) (x2 : Int32) (x3 : Int32) (g : ps_G) : Option ((Int32 × Int32 × ps_G) ⊕ ((Int32 × ps_G) ⊕ (Int32 × ps_G))) := if x1 ≤ x3 then (some (.inr (.inl (x2, g)))) else (Option.bind (q_fI 2 2 g x0) fun v2 => Option.bind (q_fI 2 1 g x0) fun v3 => if ((8 : Int32) * v3) ≤ v2 then (jX2_readBits_32_4 g x0) else (Option.bind (q_fI 2 2 g x0) fun v6 => if v6 < (64000 : Int32) then (Option.bind (q_fR 2 0 g x0) fun v8 => Option.bind (v8) fun a9 => Option.bind (q_fI 2 2 g x0) fun v10 => Option.bind (q_aI g a9 (q_shr v10 (3 : Int32))) fun v11 => Option.bind (q_fI 2 2 g x0) fun v12 => Option.bind (q_fI 2 2 g x0) fun v13 => Option.bind (q_sI 2 2 g x0 (v13 + (1 : Int32))) fun g14 => some (.inl (x2 ||| (q_shl ((q_shr v11 (v12 &&& (7 : Int32))) &&& (1 : Int32)) x3), x3 + (1 : Int32), g14))) else (jX2_readBits_32_4 g x0)))
theorem pbX2_readBits_4 {d : Nat} {Q : ps_Rs → ps_G → Prop}  {x0 : Nat} {x1 : Int32} {x2 : Int32} {x3 : Int32} {g : ps_G} {x : (Int32 × Int32 × ps_G) ⊕ ((Int32 × ps_G) ⊕ (Int32 × ps_G))} (h : bX2_readBits_4 x0 x1 x2 x3 g = some x) (hh : ∀ s' : Int32 × Int32 × ps_G, x = .inl s' → ps_At mX2_readBits d 4 [(0, .ref x0), (1, .int x1), (2, .int s'.1), (3, .int s'.2.1)] [] s'.2.2 Q) (he : ∀ r' : Int32 × ps_G, x = .inr (.inl r') → ps_At mX2_readBits d 81 [(2, .int r'.1)] [] r'.2 Q) (hr : ∀ v' : Int32 × ps_G, x = .inr (.inr v') → Q (.inl (some (.int v'.1))) v'.2) : ps_At mX2_readBits d 4 [(0, .ref x0), (1, .int x1), (2, .int x2), (3, .int x3)] [] g Q := by
  unfold bX2_readBits_4 at h
  refine sX2_readBits_4 ?_
  refine And.intro (fun hc1 => ?_) (fun hc1 => ?_)
  · replace h := q_ifp (hc1) h
    exact ps_weak (he (x2, g) (Option.some.inj h).symm) ⟨rfl, trivial⟩
  · replace h := q_ifn (hc1) h
    replace h := q_be h
    obtain ⟨v2, hv, h⟩ := h
    replace hv := q_fI_e hv
    obtain ⟨_, cv2, dv2⟩ := hv
    replace h := q_be h
    obtain ⟨v3, hv, h⟩ := h
    replace hv := q_fI_e hv
    obtain ⟨_, cv3, dv3⟩ := hv
    refine ⟨⟨some _, rfl⟩, _, _, cv2, dv2, ⟨some _, rfl⟩, _, _, cv3, dv3, ?_⟩
    refine And.intro (fun hc4 => ?_) (fun hc4 => ?_)
    · replace h := q_ifp (hc4) h
      exact ps_weak (pjX2_readBits_32_4 h hh he hr) ⟨rfl, trivial⟩
    · replace h := q_ifn (hc4) h
      replace h := q_be h
      obtain ⟨v6, hv, h⟩ := h
      replace hv := q_fI_e hv
      obtain ⟨_, cv6, dv6⟩ := hv
      refine ⟨⟨some _, rfl⟩, _, _, cv6, dv6, ?_⟩
      refine And.intro (fun hc7 => ?_) (fun hc7 => ?_)
      · replace h := q_ifp (hc7) h
        refine sX2_readBits_39 ?_
        replace h := q_be h
        obtain ⟨v8, hv, h⟩ := h
        replace hv := q_fR_e hv
        obtain ⟨_, cv8, dv8⟩ := hv
        replace h := q_be h
        obtain ⟨a9, ea9, h⟩ := h
        subst ea9
        replace h := q_be h
        obtain ⟨v10, hv, h⟩ := h
        replace hv := q_fI_e hv
        obtain ⟨_, cv10, dv10⟩ := hv
        replace h := q_be h
        obtain ⟨v11, hv, h⟩ := h
        replace hv := q_aI_e hv
        obtain ⟨_, _, cv11, iv11, yv11⟩ := hv
        replace h := q_be h
        obtain ⟨v12, hv, h⟩ := h
        replace hv := q_fI_e hv
        obtain ⟨_, cv12, dv12⟩ := hv
        replace h := q_be h
        obtain ⟨v13, hv, h⟩ := h
        replace hv := q_fI_e hv
        obtain ⟨_, cv13, dv13⟩ := hv
        replace h := q_be h
        obtain ⟨g14, hv, h⟩ := h
        replace hv := q_sI_e hv
        obtain ⟨_, cg14, dg14, yg14⟩ := hv
        refine ⟨⟨some _, rfl⟩, _, _, cv8, dv8, ⟨some _, rfl⟩, _, _, cv10, dv10, _, _, cv11, iv11, _, yv11, ⟨some _, rfl⟩, _, _, cv12, dv12, by decide, ⟨some _, rfl⟩, rfl, _, _, cv13, dv13, _, cg14, dg14, rfl, rfl, _, yg14, by decide, ?_⟩
        exact ps_weak (hh (x2 ||| (q_shl ((q_shr v11 (v12 &&& (7 : Int32))) &&& (1 : Int32)) x3), x3 + (1 : Int32), g14) (Option.some.inj h).symm) ⟨rfl, rfl, rfl, rfl, trivial⟩
      · replace h := q_ifn (hc7) h
        exact ps_weak (pjX2_readBits_32_4 h hh he hr) ⟨rfl, trivial⟩
noncomputable def fX2_readBits (g : ps_G) (x0 : Nat) (x1 : Int32) : Option (Int32 × ps_G) := Option.bind (q_lp (fun s => bX2_readBits_4 x0 x1 s.1 s.2.1 s.2.2) ((0 : Int32), (0 : Int32), g)) fun s21 => Sum.elim (fun r22 => some (r22.1, r22.2)) (fun v23 => some v23) s21
theorem rX2_readBits {d : Nat} {Q : ps_Rs → ps_G → Prop} {g : ps_G} {x0 : Nat} {x1 : Int32} {r : Int32 × ps_G} (h : fX2_readBits g x0 x1 = some r) (hk : Q (.inl (some (.int r.1))) r.2) : ps_Ok mX2_readBits d [.ref x0, .int x1] g Q := by
  unfold fX2_readBits at h
  refine sX2_readBits_0 ?_
  refine ⟨by decide, by decide, ?_⟩
  replace h := q_be h
  obtain ⟨s21, hl, h⟩ := h
  refine ps_weak (q_lp_ok hl (fun s => ps_At mX2_readBits d 4 [(0, .ref x0), (1, .int x1), (2, .int s.1), (3, .int s.2.1)] [] s.2.2 Q) (Sum.elim (fun r => ps_At mX2_readBits d 81 [(2, .int r.1)] [] r.2 Q) (fun v => Q (.inl (some (.int v.1))) v.2)) (fun s x hb hh he => pbX2_readBits_4 hb hh (fun _ e => he _ e) (fun _ e => he _ e)) ?_) ⟨rfl, rfl, rfl, rfl, trivial⟩
  rcases s21 with r22 | v23
  · refine (?_ : ps_At mX2_readBits d 81 [(2, .int r22.1)] [] r22.2 Q)
    refine sX2_readBits_81 ?_
    cases h
    exact ⟨rfl, hk⟩
  · cases h
    exact hk
noncomputable def fX2_toByte (g : ps_G) (x0 : Nat) : Option (ps_G) := Option.bind (q_fI 2 2 g x0) fun v1 => Option.bind (q_sI 2 2 g x0 ((v1 + (7 : Int32)) &&& (-8 : Int32))) fun g2 => some g2
theorem rX2_toByte {d : Nat} {Q : ps_Rs → ps_G → Prop} {g : ps_G} {x0 : Nat} {r : ps_G} (h : fX2_toByte g x0 = some r) (hk : Q (.inl none) r) : ps_Ok mX2_toByte d [.ref x0] g Q := by
  unfold fX2_toByte at h
  refine sX2_toByte_0 ?_
  replace h := q_be h
  obtain ⟨v1, hv, h⟩ := h
  replace hv := q_fI_e hv
  obtain ⟨_, cv1, dv1⟩ := hv
  replace h := q_be h
  obtain ⟨g2, hv, h⟩ := h
  replace hv := q_sI_e hv
  obtain ⟨_, cg2, dg2, yg2⟩ := hv
  cases h
  exact ⟨⟨some _, rfl⟩, ⟨some _, rfl⟩, _, _, cv1, dv1, _, cg2, dg2, rfl, rfl, _, yg2, rfl, rfl, hk⟩
