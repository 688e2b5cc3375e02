noncomputable def jX12_child_38_2 (g : ps_G) (x0 : Nat) (x1 : Int32) (x2 : Int32) (x3 : Int32) : Option ((Int32) ⊕ ((Unit) ⊕ (Int32))) := some (.inl (x3 + (1 : Int32)))
theorem pjX12_child_38_2 {d : Nat} {Q : ps_Rs → ps_G → Prop} {g : ps_G} {x0 : Nat} {x1 : Int32} {x2 : Int32} {x3 : Int32} {x : (Int32) ⊕ ((Unit) ⊕ (Int32))} (h : jX12_child_38_2 g x0 x1 x2 x3 = some x) (hh : ∀ s' : Int32, x = .inl s' → ps_At mX12_child (d + 2) 2 [(0, .ref x0), (1, .int x1), (2, .int x2), (3, .int s')] [] g Q) (he : ∀ r' : Unit, x = .inr (.inl r') → ps_At mX12_child (d + 2) 44 [] [] g Q) (hr : ∀ v' : Int32, x = .inr (.inr v') → Q (.inl (some (.int v'))) g) : ps_At mX12_child (d + 2) 38 [(0, .ref x0), (1, .int x1), (2, .int x2), (3, .int x3)] [] g Q := by
  unfold jX12_child_38_2 at h
  refine sX12_child_38 ?_
  refine ⟨by decide, ?_⟩
  exact ps_weak (hh (x3 + (1 : Int32)) (Option.some.inj h).symm) ⟨rfl, rfl, rfl, rfl, trivial⟩
noncomputable def bX12_child_2 (g : ps_G) (x0 : Nat) (x1 : Int32) (x2 : Int32) (x3 : Int32) : Option ((Int32) ⊕ ((Unit) ⊕ (Int32))) := if (30 : Int32) ≤ x3 then (some (.inr (.inl ()))) else (Option.bind (q_ob 12 g x0) fun u2 => Option.bind (fX12_isLayer g x0 x3) fun v3 => if v3 = 0 then (jX12_child_38_2 g x0 x1 x2 x3) else (Option.bind (q_ob 12 g x0) fun u5 => Option.bind (fX12_get g x0 x3 (2 : Int32)) fun v6 => if ¬ v6 = x1 then (jX12_child_38_2 g x0 x1 x2 x3) else (Option.bind (q_ob 12 g x0) fun u8 => Option.bind (fX12_get g x0 x3 (3 : Int32)) fun v9 => if ¬ v9 = x2 then (jX12_child_38_2 g x0 x1 x2 x3) else (some (.inr (.inr x3))))))
theorem pbX12_child_2 {d : Nat} {Q : ps_Rs → ps_G → Prop} {g : ps_G} {x0 : Nat} {x1 : Int32} {x2 : Int32} {x3 : Int32} {x : (Int32) ⊕ ((Unit) ⊕ (Int32))} (h : bX12_child_2 g x0 x1 x2 x3 = some x) (hh : ∀ s' : Int32, x = .inl s' → ps_At mX12_child (d + 2) 2 [(0, .ref x0), (1, .int x1), (2, .int x2), (3, .int s')] [] g Q) (he : ∀ r' : Unit, x = .inr (.inl r') → ps_At mX12_child (d + 2) 44 [] [] g Q) (hr : ∀ v' : Int32, x = .inr (.inr v') → Q (.inl (some (.int v'))) g) : ps_At mX12_child (d + 2) 2 [(0, .ref x0), (1, .int x1), (2, .int x2), (3, .int x3)] [] g Q := by
  unfold bX12_child_2 at h
  refine sX12_child_2 ?_
  refine And.intro (fun hc1 => ?_) (fun hc1 => ?_)
  · replace h := q_ifp (hc1) h
    exact ps_weak (he () (Option.some.inj h).symm) trivial
  · replace h := q_ifn (hc1) h
    replace h := q_be h
    obtain ⟨u2, hv, h⟩ := h
    replace hv := q_ob_e hv
    obtain ⟨_, cu2⟩ := hv
    replace h := q_be h
    obtain ⟨v3, hv, h⟩ := h
    refine ⟨⟨some _, rfl⟩, ⟨_, cu2⟩, ?_⟩
    refine rX12_isLayer hv ?_
    refine And.intro (fun hc4 => ?_) (fun hc4 => ?_)
    · replace h := q_ifp (hc4) h
      exact ps_weak (pjX12_child_38_2 h hh he hr) ⟨rfl, rfl, rfl, rfl, trivial⟩
    · replace h := q_ifn (hc4) h
      replace h := q_be h
      obtain ⟨u5, hv, h⟩ := h
      replace hv := q_ob_e hv
      obtain ⟨_, cu5⟩ := hv
      replace h := q_be h
      obtain ⟨v6, hv, h⟩ := h
      refine ⟨⟨some _, rfl⟩, ⟨_, cu5⟩, ?_⟩
      refine rX12_get hv ?_
      refine And.intro (fun hc7 => ?_) (fun hc7 => ?_)
      · replace h := q_ifp (hc7) h
        exact ps_weak (pjX12_child_38_2 h hh he hr) ⟨rfl, rfl, rfl, rfl, trivial⟩
      · replace h := q_ifn (hc7) h
        replace h := q_be h
        obtain ⟨u8, hv, h⟩ := h
        replace hv := q_ob_e hv
        obtain ⟨_, cu8⟩ := hv
        replace h := q_be h
        obtain ⟨v9, hv, h⟩ := h
        refine ⟨⟨some _, rfl⟩, ⟨_, cu8⟩, ?_⟩
        refine rX12_get hv ?_
        refine And.intro (fun hc10 => ?_) (fun hc10 => ?_)
        · replace h := q_ifp (hc10) h
          exact ps_weak (pjX12_child_38_2 h hh he hr) ⟨rfl, rfl, rfl, rfl, trivial⟩
        · replace h := q_ifn (hc10) h
          exact ⟨rfl, hr x3 (Option.some.inj h).symm⟩
noncomputable def fX12_child (g : ps_G) (x0 : Nat) (x1 : Int32) (x2 : Int32) : Option (Int32) := Option.bind (q_lp (fun s => bX12_child_2 g x0 x1 x2 s) (0 : Int32)) fun s19 => Sum.elim (fun r20 => some (-1 : Int32)) (fun v21 => some v21) s19
theorem rX12_child {d : Nat} {Q : ps_Rs → ps_G → Prop} {g : ps_G} {x0 : Nat} {x1 : Int32} {x2 : Int32} {r : Int32} (h : fX12_child g x0 x1 x2 = some r) (hk : Q (.inl (some (.int r))) g) : ps_Ok mX12_child (d + 2) [.ref x0, .int x1, .int x2] g Q := by
  unfold fX12_child at h
  refine sX12_child_0 ?_
  refine ⟨by decide, ?_⟩
  replace h := q_be h
  obtain ⟨s19, hl, h⟩ := h
  refine ps_weak (q_lp_ok hl (fun s => ps_At mX12_child (d + 2) 2 [(0, .ref x0), (1, .int x1), (2, .int x2), (3, .int s)] [] g Q) (Sum.elim (fun r => ps_At mX12_child (d + 2) 44 [] [] g Q) (fun v => Q (.inl (some (.int v))) g)) (fun s x hb hh he => pbX12_child_2 hb hh (fun _ e => he _ e) (fun _ e => he _ e)) ?_) ⟨rfl, rfl, rfl, rfl, trivial⟩
  rcases s19 with r20 | v21
  · refine (?_ : ps_At mX12_child (d + 2) 44 [] [] g Q)
    refine sX12_child_44 ?_
    cases h
    exact ⟨rfl, hk⟩
  · cases h
    exact hk
def fX12_alpha (x0 : Int32) : Int32 := q_ush x0 (24 : Int32)
theorem rX12_alpha {d : Nat} {Q : ps_Rs → ps_G → Prop} {g : ps_G} {x0 : Int32} {r : Int32} (h : fX12_alpha x0 = r) (hk : Q (.inl (some (.int r))) g) : ps_Ok mX12_alpha d [.int x0] g Q := by
  unfold fX12_alpha at h
  refine sX12_alpha_0 ?_
  subst h
  exact ⟨rfl, hk⟩
def fX12_part (x0 : Int32) (x1 : Int32) : Int32 := (if ¬ x1 = (3 : Int32) then (q_shr x0 ((16 : Int32) - ((8 : Int32) * x1))) &&& (255 : Int32) else q_ush x0 (24 : Int32))
theorem rX12_part {d : Nat} {Q : ps_Rs → ps_G → Prop} {g : ps_G} {x0 : Int32} {x1 : Int32} {r : Int32} (h : fX12_part x0 x1 = r) (hk : Q (.inl (some (.int r))) g) : ps_Ok mX12_part d [.int x0, .int x1] g Q := by
  unfold fX12_part at h
  refine sX12_part_0 ?_
  have kJ3 : ∀ w2 : Int32, w2 = (if ¬ x1 = (3 : Int32) then (q_shr x0 ((16 : Int32) - ((8 : Int32) * x1))) &&& (255 : Int32) else q_ush x0 (24 : Int32)) → ps_At mX12_part d 25 [] [.int w2] g Q := by
    rintro _ rfl
    refine sX12_part_25 ?_
    subst h
    exact ⟨rfl, hk⟩
  refine And.intro (fun hc1 => ?_) (fun hc1 => ?_)
  · refine sX12_part_12 ?_
    exact ps_weak (kJ3 _ (if_pos (hc1)).symm) trivial
  · exact ps_weak (kJ3 _ (if_neg (hc1)).symm) trivial
noncomputable def bX12_curveAt_39 (g : ps_G) (x0 : Nat) (x1 : Int32) (x2 : Int32) (x3 : Int32) (x4 : Int32) : Option ((Int32) ⊕ ((Unit) ⊕ (Int32))) := if x3 ≤ x4 then (some (.inr (.inl ()))) else (Option.bind (q_fR 12 29 g x0) fun v10 => Option.bind (v10) fun a11 => Option.bind (q_aI g a11 ((((8 : Int32) * x1) + x4) - (1 : Int32))) fun v12 => Option.bind (q_fR 12 29 g x0) fun v13 => Option.bind (v13) fun a14 => Option.bind (q_aI g a14 (((8 : Int32) * x1) + x4)) fun v15 => if x2 ≤ v15 then (Option.bind (q_fR 12 30 g x0) fun v17 => Option.bind (v17) fun a18 => Option.bind (q_aI g a18 ((((8 : Int32) * x1) + x4) - (1 : Int32))) fun v19 => Option.bind (q_fR 12 30 g x0) fun v20 => Option.bind (v20) fun a21 => Option.bind (q_aI g a21 (((8 : Int32) * x1) + x4)) fun v22 => Option.bind (q_div ((v22 - v19) * (x2 - v12)) (v15 - v12)) fun v23 => some (.inr (.inr (v19 + v23)))) else (some (.inl (x4 + (1 : Int32)))))
theorem pbX12_curveAt_39 {d : Nat} {Q : ps_Rs → ps_G → Prop} {g : ps_G} {x0 : Nat} {x1 : Int32} {x2 : Int32} {x3 : Int32} {x4 : Int32} {x : (Int32) ⊕ ((Unit) ⊕ (Int32))} (h : bX12_curveAt_39 g x0 x1 x2 x3 x4 = some x) (hh : ∀ s' : Int32, x = .inl s' → ps_At mX12_curveAt d 39 [(0, .ref x0), (1, .int x1), (2, .int x2), (3, .int x3), (4, .int s')] [] g Q) (he : ∀ r' : Unit, x = .inr (.inl r') → ps_At mX12_curveAt d 136 [(0, .ref x0), (1, .int x1), (3, .int x3)] [] g Q) (hr : ∀ v' : Int32, x = .inr (.inr v') → Q (.inl (some (.int v'))) g) : ps_At mX12_curveAt d 39 [(0, .ref x0), (1, .int x1), (2, .int x2), (3, .int x3), (4, .int x4)] [] g Q := by
  unfold bX12_curveAt_39 at h
  refine sX12_curveAt_39 ?_
  refine And.intro (fun hc9 => ?_) (fun hc9 => ?_)
  · replace h := q_ifp (hc9) h
    exact ps_weak (he () (Option.some.inj h).symm) ⟨rfl, rfl, rfl, trivial⟩
  · replace h := q_ifn (hc9) h
    replace h := q_be h
    obtain ⟨v10, hv, h⟩ := h
    replace hv := q_fR_e hv
    obtain ⟨_, cv10, dv10⟩ := hv
    replace h := q_be h
    obtain ⟨a11, ea11, h⟩ := h
    subst ea11
    replace h := q_be h
    obtain ⟨v12, hv, h⟩ := h
    replace hv := q_aI_e hv
    obtain ⟨_, _, cv12, iv12, yv12⟩ := hv
    replace h := q_be h
    obtain ⟨v13, hv, h⟩ := h
    replace hv := q_fR_e hv
    obtain ⟨_, cv13, dv13⟩ := hv
    replace h := q_be h
    obtain ⟨a14, ea14, h⟩ := h
    subst ea14
    replace h := q_be h
    obtain ⟨v15, hv, h⟩ := h
    replace hv := q_aI_e hv
    obtain ⟨_, _, cv15, iv15, yv15⟩ := hv
    refine ⟨⟨some _, rfl⟩, _, _, cv10, dv10, _, _, cv12, iv12, _, yv12, by decide, ⟨some _, rfl⟩, _, _, cv13, dv13, _, _, cv15, iv15, _, yv15, by decide, ?_⟩
    refine And.intro (fun hc16 => ?_) (fun hc16 => ?_)
    · replace h := q_ifp (hc16) h
      refine sX12_curveAt_84 ?_
      replace h := q_be h
      obtain ⟨v17, hv, h⟩ := h
      replace hv := q_fR_e hv
      obtain ⟨_, cv17, dv17⟩ := hv
      replace h := q_be h
      obtain ⟨a18, ea18, h⟩ := h
      subst ea18
      replace h := q_be h
      obtain ⟨v19, hv, h⟩ := h
      replace hv := q_aI_e hv
      obtain ⟨_, _, cv19, iv19, yv19⟩ := hv
      replace h := q_be h
      obtain ⟨v20, hv, h⟩ := h
      replace hv := q_fR_e hv
      obtain ⟨_, cv20, dv20⟩ := hv
      replace h := q_be h
      obtain ⟨a21, ea21, h⟩ := h
      subst ea21
      replace h := q_be h
      obtain ⟨v22, hv, h⟩ := h
      replace hv := q_aI_e hv
      obtain ⟨_, _, cv22, iv22, yv22⟩ := hv
      replace h := q_be h
      obtain ⟨v23, hv, h⟩ := h
      replace hv := q_div_e hv
      obtain ⟨zv23, yv23⟩ := hv
      exact ⟨⟨some _, rfl⟩, _, _, cv17, dv17, _, _, cv19, iv19, _, yv19, by decide, ⟨some _, rfl⟩, _, _, cv20, dv20, _, _, cv22, iv22, _, yv22, zv23, _, yv23, rfl, hr (v19 + v23) (Option.some.inj h).symm⟩
    · replace h := q_ifn (hc16) h
      refine sX12_curveAt_130 ?_
      refine ⟨by decide, ?_⟩
      exact ps_weak (hh (x4 + (1 : Int32)) (Option.some.inj h).symm) ⟨rfl, rfl, rfl, rfl, rfl, trivial⟩
noncomputable def fX12_curveAt (g : ps_G) (x0 : Nat) (x1 : Int32) (x2 : Int32) : Option (Int32) := Option.bind (q_fR 12 28 g x0) fun v1 => Option.bind (v1) fun a2 => Option.bind (q_aI g a2 x1) fun v3 => if ¬ v3 = 0 then (Option.bind (q_fR 12 29 g x0) fun v5 => Option.bind (v5) fun a6 => Option.bind (q_aI g a6 ((8 : Int32) * x1)) fun v7 => if v7 < x2 then (Option.bind (q_lp (fun s => bX12_curveAt_39 g x0 x1 x2 v3 s) (1 : Int32)) fun s28 => Sum.elim (fun r29 => Option.bind (q_fR 12 30 g x0) fun v30 => Option.bind (v30) fun a31 => Option.bind (q_aI g a31 ((((8 : Int32) * x1) + v3) - (1 : Int32))) fun v32 => some v32) (fun v33 => some v33) s28) else (Option.bind (q_fR 12 30 g x0) fun v34 => Option.bind (v34) fun a35 => Option.bind (q_aI g a35 ((8 : Int32) * x1)) fun v36 => some v36)) else (some x2)
theorem rX12_curveAt {d : Nat} {Q : ps_Rs → ps_G → Prop} {g : ps_G} {x0 : Nat} {x1 : Int32} {x2 : Int32} {r : Int32} (h : fX12_curveAt g x0 x1 x2 = some r) (hk : Q (.inl (some (.int r))) g) : ps_Ok mX12_curveAt d [.ref x0, .int x1, .int x2] g Q := by
  unfold fX12_curveAt at h
  refine sX12_curveAt_0 ?_
  replace h := q_be h
  obtain ⟨v1, hv, h⟩ := h
  replace hv := q_fR_e hv
  obtain ⟨_, cv1, dv1⟩ := hv
  replace h := q_be h
  obtain ⟨a2, ea2, h⟩ := h
  subst ea2
  replace h := q_be h
  obtain ⟨v3, hv, h⟩ := h
  replace hv := q_aI_e hv
  obtain ⟨_, _, cv3, iv3, yv3⟩ := hv
  refine ⟨⟨some _, rfl⟩, _, _, cv1, dv1, _, _, cv3, iv3, _, yv3, by decide, ?_⟩
  refine And.intro (fun hc4 => ?_) (fun hc4 => ?_)
  · replace h := q_ifp (hc4) h
    refine sX12_curveAt_13 ?_
    replace h := q_be h
    obtain ⟨v5, hv, h⟩ := h
    replace hv := q_fR_e hv
    obtain ⟨_, cv5, dv5⟩ := hv
    replace h := q_be h
    obtain ⟨a6, ea6, h⟩ := h
    subst ea6
    replace h := q_be h
    obtain ⟨v7, hv, h⟩ := h
    replace hv := q_aI_e hv
    obtain ⟨_, _, cv7, iv7, yv7⟩ := hv
    refine ⟨⟨some _, rfl⟩, _, _, cv5, dv5, _, _, cv7, iv7, _, yv7, ?_⟩
    refine And.intro (fun hc8 => ?_) (fun hc8 => ?_)
    · replace h := q_ifp (hc8) h
      refine sX12_curveAt_36 ?_
      refine ⟨by decide, ?_⟩
      replace h := q_be h
      obtain ⟨s28, hl, h⟩ := h
      refine ps_weak (q_lp_ok hl (fun s => ps_At mX12_curveAt d 39 [(0, .ref x0), (1, .int x1), (2, .int x2), (3, .int v3), (4, .int s)] [] g Q) (Sum.elim (fun r => ps_At mX12_curveAt d 136 [(0, .ref x0), (1, .int x1), (3, .int v3)] [] g Q) (fun v => Q (.inl (some (.int v))) g)) (fun s x hb hh he => pbX12_curveAt_39 hb hh (fun _ e => he _ e) (fun _ e => he _ e)) ?_) ⟨rfl, rfl, rfl, rfl, rfl, trivial⟩
      rcases s28 with r29 | v33
      · refine (?_ : ps_At mX12_curveAt d 136 [(0, .ref x0), (1, .int x1), (3, .int v3)] [] g Q)
        refine sX12_curveAt_136 ?_
        replace h := q_be h
        obtain ⟨v30, hv, h⟩ := h
        replace hv := q_fR_e hv
        obtain ⟨_, cv30, dv30⟩ := hv
        replace h := q_be h
        obtain ⟨a31, ea31, h⟩ := h
        subst ea31
        replace h := q_be h
        obtain ⟨v32, hv, h⟩ := h
        replace hv := q_aI_e hv
        obtain ⟨_, _, cv32, iv32, yv32⟩ := hv
        cases h
        exact ⟨⟨some _, rfl⟩, _, _, cv30, dv30, _, _, cv32, iv32, _, yv32, rfl, hk⟩
      · cases h
        exact hk
    · replace h := q_ifn (hc8) h
      replace h := q_be h
      obtain ⟨v34, hv, h⟩ := h
      replace hv := q_fR_e hv
      obtain ⟨_, cv34, dv34⟩ := hv
      replace h := q_be h
      obtain ⟨a35, ea35, h⟩ := h
      subst ea35
      replace h := q_be h
      obtain ⟨v36, hv, h⟩ := h
      replace hv := q_aI_e hv
      obtain ⟨_, _, cv36, iv36, yv36⟩ := hv
      cases h
      exact ⟨⟨some _, rfl⟩, _, _, cv34, dv34, _, _, cv36, iv36, _, yv36, rfl, hk⟩
  · replace h := q_ifn (hc4) h
    cases h
    exact ⟨rfl, hk⟩
noncomputable def bX12_curved_11 (g : ps_G) (x0 : Nat) (x1 : Int32) (x2 : Int32) (x3 : Int32) (x4 : Int32) : Option ((Int32 × Int32) ⊕ (Int32)) := if (3 : Int32) ≤ x4 then (some (.inr x3)) else (Option.bind (q_ob 12 g x0) fun u3 => Option.bind (fX12_curveAt g x0 (((4 : Int32) * x2) + x4) (fX12_part x1 x4)) fun v4 => Option.bind (q_ob 12 g x0) fun u5 => Option.bind (fX12_curveAt g x0 (((4 : Int32) * x2) + (3 : Int32)) v4) fun v6 => some (.inl (x3 ||| (q_shl v6 ((16 : Int32) - ((8 : Int32) * x4))), x4 + (1 : Int32))))
theorem pbX12_curved_11 {d : Nat} {Q : ps_Rs → ps_G → Prop} {g : ps_G} {x0 : Nat} {x1 : Int32} {x2 : Int32} {x3 : Int32} {x4 : Int32} {x : (Int32 × Int32) ⊕ (Int32)} (h : bX12_curved_11 g x0 x1 x2 x3 x4 = some x) (hh : ∀ s' : Int32 × Int32, x = .inl s' → ps_At mX12_curved (d + 1) 11 [(0, .ref x0), (1, .int x1), (2, .int x2), (3, .int s'.1), (4, .int s'.2)] [] g Q) (he : ∀ r' : Int32, x = .inr r' → ps_At mX12_curved (d + 1) 60 [(3, .int r')] [] g Q) : ps_At mX12_curved (d + 1) 11 [(0, .ref x0), (1, .int x1), (2, .int x2), (3, .int x3), (4, .int x4)] [] g Q := by
  unfold bX12_curved_11 at h
  refine sX12_curved_11 ?_
  refine And.intro (fun hc1 => ?_) (fun hc1 => ?_)
  · replace h := q_ifp (hc1) h
    exact ps_weak (he x3 (Option.some.inj h).symm) ⟨rfl, trivial⟩
  · replace h := q_ifn (hc1) h
    refine ⟨⟨some _, rfl⟩, ⟨some _, rfl⟩, ?_⟩
    refine rX12_part rfl ?_
    replace h := q_be h
    obtain ⟨u3, hv, h⟩ := h
    replace hv := q_ob_e hv
    obtain ⟨_, cu3⟩ := hv
    replace h := q_be h
    obtain ⟨v4, hv, h⟩ := h
    refine ⟨⟨_, cu3⟩, ?_⟩
    refine rX12_curveAt hv ?_
    replace h := q_be h
    obtain ⟨u5, hv, h⟩ := h
    replace hv := q_ob_e hv
    obtain ⟨_, cu5⟩ := hv
    replace h := q_be h
    obtain ⟨v6, hv, h⟩ := h
    refine ⟨⟨_, cu5⟩, ?_⟩
    refine rX12_curveAt hv ?_
    refine ⟨by decide, by decide, ?_⟩
    exact ps_weak (hh (x3 ||| (q_shl v6 ((16 : Int32) - ((8 : Int32) * x4))), x4 + (1 : Int32)) (Option.some.inj h).symm) ⟨rfl, rfl, rfl, rfl, rfl, trivial⟩
noncomputable def fX12_curved (g : ps_G) (x0 : Nat) (x1 : Int32) (x2 : Int32) : Option (Int32) := Option.bind (q_lp (fun s => bX12_curved_11 g x0 x1 x2 s.1 s.2) (q_shl (fX12_alpha x1) (24 : Int32), (0 : Int32))) fun s9 => some s9
theorem rX12_curved {d : Nat} {Q : ps_Rs → ps_G → Prop} {g : ps_G} {x0 : Nat} {x1 : Int32} {x2 : Int32} {r : Int32} (h : fX12_curved g x0 x1 x2 = some r) (hk : Q (.inl (some (.int r))) g) : ps_Ok mX12_curved (d + 1) [.ref x0, .int x1, .int x2] g Q := by
  unfold fX12_curved at h
  refine sX12_curved_0 ?_
  refine rX12_alpha rfl ?_
  refine ⟨by decide, by decide, ?_⟩
  replace h := q_be h
  obtain ⟨s9, hl, h⟩ := h
  refine ps_weak (q_lp_ok hl (fun s => ps_At mX12_curved (d + 1) 11 [(0, .ref x0), (1, .int x1), (2, .int x2), (3, .int s.1), (4, .int s.2)] [] g Q) (fun r => ps_At mX12_curved (d + 1) 60 [(3, .int r)] [] g Q) (fun s x hb hh he => pbX12_curved_11 hb hh he) ?_) ⟨rfl, rfl, rfl, rfl, rfl, trivial⟩
  refine (?_ : ps_At mX12_curved (d + 1) 60 [(3, .int s9)] [] g Q)
  refine sX12_curved_60 ?_
  cases h
  exact ⟨rfl, hk⟩
noncomputable def jX12_near_53 (g : ps_G) (x0 : Nat) (x3 : Int32) (k0 : Int32) : Option (Int32) := Option.bind (q_fR 12 18 g x0) fun v11 => Option.bind (v11) fun a12 => Option.bind (q_ob 12 g x0) fun u13 => Option.bind (fX12_at g x0 x3 k0) fun v14 => Option.bind (q_aI g a12 v14) fun v15 => some v15
theorem pjX12_near_53 {d : Nat} {Q : ps_Rs → ps_G → Prop} {g : ps_G} {x0 : Nat} {x3 : Int32} {k0 : Int32} {r : Int32} (h : jX12_near_53 g x0 x3 k0 = some r) (hk : Q (.inl (some (.int r))) g) : ps_At mX12_near (d + 1) 53 [(0, .ref x0), (3, .int x3)] [.int k0] g Q := by
  unfold jX12_near_53 at h
  refine sX12_near_53 ?_
  replace h := q_be h
  obtain ⟨v11, hv, h⟩ := h
  replace hv := q_fR_e hv
  obtain ⟨_, cv11, dv11⟩ := hv
  replace h := q_be h
  obtain ⟨a12, ea12, h⟩ := h
  subst ea12
  replace h := q_be h
  obtain ⟨u13, hv, h⟩ := h
  replace hv := q_ob_e hv
  obtain ⟨_, cu13⟩ := hv
  replace h := q_be h
  obtain ⟨v14, hv, h⟩ := h
  refine ⟨by decide, ⟨some _, rfl⟩, _, _, cv11, dv11, ⟨some _, rfl⟩, ⟨_, cu13⟩, ?_⟩
  refine rX12_at hv ?_
  replace h := q_be h
  obtain ⟨v15, hv, h⟩ := h
  replace hv := q_aI_e hv
  obtain ⟨_, _, cv15, iv15, yv15⟩ := hv
  cases h
  exact ⟨_, _, cv15, iv15, _, yv15, rfl, hk⟩
noncomputable def jX12_near_26 (g : ps_G) (x0 : Nat) (x2 : Int32) (k0 : Int32) : Option (Int32) := if 0 ≤ x2 then (Option.bind (q_fI 12 14 g x0) fun v8 => if x2 < v8 then (jX12_near_53 g x0 k0 x2) else (Option.bind (q_fI 12 14 g x0) fun v16 => jX12_near_53 g x0 k0 (v16 - (1 : Int32)))) else (jX12_near_53 g x0 k0 (0 : Int32))
theorem pjX12_near_26 {d : Nat} {Q : ps_Rs → ps_G → Prop} {g : ps_G} {x0 : Nat} {x2 : Int32} {k0 : Int32} {r : Int32} (h : jX12_near_26 g x0 x2 k0 = some r) (hk : Q (.inl (some (.int r))) g) : ps_At mX12_near (d + 1) 26 [(0, .ref x0), (2, .int x2)] [.int k0] g Q := by
  unfold jX12_near_26 at h
  refine sX12_near_26 ?_
  refine ⟨by decide, ?_⟩
  refine And.intro (fun hc6 => ?_) (fun hc6 => ?_)
  · replace h := q_ifp (hc6) h
    refine sX12_near_35 ?_
    replace h := q_be h
    obtain ⟨v8, hv, h⟩ := h
    replace hv := q_fI_e hv
    obtain ⟨_, cv8, dv8⟩ := hv
    refine ⟨⟨some _, rfl⟩, _, _, cv8, dv8, ?_⟩
    refine And.intro (fun hc9 => ?_) (fun hc9 => ?_)
    · replace h := q_ifp (hc9) h
      refine sX12_near_52 ?_
      exact ps_weak (pjX12_near_53 h hk) ⟨rfl, rfl, trivial⟩
    · replace h := q_ifn (hc9) h
      replace h := q_be h
      obtain ⟨v16, hv, h⟩ := h
      replace hv := q_fI_e hv
      obtain ⟨_, cv16, dv16⟩ := hv
      refine ⟨⟨some _, rfl⟩, _, _, cv16, dv16, ?_⟩
      exact ps_weak (pjX12_near_53 h hk) ⟨rfl, rfl, trivial⟩
  · replace h := q_ifn (hc6) h
    exact ps_weak (pjX12_near_53 h hk) ⟨rfl, rfl, trivial⟩
noncomputable def fX12_near (g : ps_G) (x0 : Nat) (x1 : Int32) (x2 : Int32) : Option (Int32) := if 0 ≤ x1 then (Option.bind (q_fI 12 13 g x0) fun v3 => if x1 < v3 then (jX12_near_26 g x0 x2 x1) else (Option.bind (q_fI 12 13 g x0) fun v21 => jX12_near_26 g x0 x2 (v21 - (1 : Int32)))) else (jX12_near_26 g x0 x2 (0 : Int32))
theorem rX12_near {d : Nat} {Q : ps_Rs → ps_G → Prop} {g : ps_G} {x0 : Nat} {x1 : Int32} {x2 : Int32} {r : Int32} (h : fX12_near g x0 x1 x2 = some r) (hk : Q (.inl (some (.int r))) g) : ps_Ok mX12_near (d + 1) [.ref x0, .int x1, .int x2] g Q := by
  unfold fX12_near at h
  refine sX12_near_0 ?_
  refine And.intro (fun hc1 => ?_) (fun hc1 => ?_)
  · replace h := q_ifp (hc1) h
    refine sX12_near_8 ?_
    replace h := q_be h
    obtain ⟨v3, hv, h⟩ := h
    replace hv := q_fI_e hv
    obtain ⟨_, cv3, dv3⟩ := hv
    refine ⟨⟨some _, rfl⟩, _, _, cv3, dv3, ?_⟩
    refine And.intro (fun hc4 => ?_) (fun hc4 => ?_)
    · replace h := q_ifp (hc4) h
      refine sX12_near_25 ?_
      exact ps_weak (pjX12_near_26 h hk) ⟨rfl, rfl, trivial⟩
    · replace h := q_ifn (hc4) h
      replace h := q_be h
      obtain ⟨v21, hv, h⟩ := h
      replace hv := q_fI_e hv
      obtain ⟨_, cv21, dv21⟩ := hv
      refine ⟨⟨some _, rfl⟩, _, _, cv21, dv21, ?_⟩
      exact ps_weak (pjX12_near_26 h hk) ⟨rfl, rfl, trivial⟩
  · replace h := q_ifn (hc1) h
    exact ps_weak (pjX12_near_26 h hk) ⟨rfl, rfl, trivial⟩
def fX12_colour (x0 : Int32) (x1 : Int32) (x2 : Int32) (x3 : Int32) : Int32 := (((q_shl x3 (24 : Int32)) ||| (q_shl x0 (16 : Int32))) ||| (q_shl x1 (8 : Int32))) ||| x2
theorem rX12_colour {d : Nat} {Q : ps_Rs → ps_G → Prop} {g : ps_G} {x0 : Int32} {x1 : Int32} {x2 : Int32} {x3 : Int32} {r : Int32} (h : fX12_colour x0 x1 x2 x3 = r) (hk : Q (.inl (some (.int r))) g) : ps_Ok mX12_colour d [.int x0, .int x1, .int x2, .int x3] g Q := by
  unfold fX12_colour at h
  refine sX12_colour_0 ?_
  subst h
  exact ⟨rfl, hk⟩
noncomputable def bX12_soft_30 (g : ps_G) (x0 : Nat) (x1 : Int32) (x2 : Int32) (x3 : Int32) (x8 : Int32) (x4 : Int32) (x5 : Int32) (x6 : Int32) (x7 : Int32) (x9 : Int32) : Option ((Int32 × Int32 × Int32 × Int32 × Int32) ⊕ (Int32 × Int32 × Int32 × Int32)) := if (x2 + x1) < x9 then (some (.inr (x4, x5, x6, x7))) else (Option.bind (q_ob 12 g x0) fun u4 => Option.bind (fX12_near g x0 x9 x8) fun v5 => some (.inl (x4 + (fX12_alpha v5), x5 + ((fX12_alpha v5) * (fX12_part v5 (0 : Int32))), x6 + ((fX12_alpha v5) * (fX12_part v5 (1 : Int32))), x7 + ((fX12_alpha v5) * (fX12_part v5 (2 : Int32))), x9 + (1 : Int32))))
theorem pbX12_soft_30 {d : Nat} {Q : ps_Rs → ps_G → Prop} {g : ps_G} {x0 : Nat} {x1 : Int32} {x2 : Int32} {x3 : Int32} {x8 : Int32} {x4 : Int32} {x5 : Int32} {x6 : Int32} {x7 : Int32} {x9 : Int32} {x : (Int32 × Int32 × Int32 × Int32 × Int32) ⊕ (Int32 × Int32 × Int32 × Int32)} (h : bX12_soft_30 g x0 x1 x2 x3 x8 x4 x5 x6 x7 x9 = some x) (hh : ∀ s' : Int32 × Int32 × Int32 × Int32 × Int32, x = .inl s' → ps_At mX12_soft (d + 2) 30 [(0, .ref x0), (1, .int x1), (2, .int x2), (3, .int x3), (4, .int s'.1), (5, .int s'.2.1), (6, .int s'.2.2.1), (7, .int s'.2.2.2.1), (8, .int x8), (9, .int s'.2.2.2.2)] [] g Q) (he : ∀ r' : Int32 × Int32 × Int32 × Int32, x = .inr r' → ps_At mX12_soft (d + 2) 115 [(0, .ref x0), (1, .int x1), (2, .int x2), (3, .int x3), (4, .int r'.1), (5, .int r'.2.1), (6, .int r'.2.2.1), (7, .int r'.2.2.2), (8, .int x8)] [] g Q) : ps_At mX12_soft (d + 2) 30 [(0, .ref x0), (1, .int x1), (2, .int x2), (3, .int x3), (4, .int x4), (5, .int x5), (6, .int x6), (7, .int x7), (8, .int x8), (9, .int x9)] [] g Q := by
  unfold bX12_soft_30 at h
  refine sX12_soft_30 ?_
  refine And.intro (fun hc2 => ?_) (fun hc2 => ?_)
  · replace h := q_ifp (hc2) h
    exact ps_weak (he (x4, x5, x6, x7) (Option.some.inj h).symm) ⟨rfl, rfl, rfl, rfl, rfl, rfl, rfl, rfl, rfl, trivial⟩
  · replace h := q_ifn (hc2) h
    replace h := q_be h
    obtain ⟨u4, hv, h⟩ := h
    replace hv := q_ob_e hv
    obtain ⟨_, cu4⟩ := hv
    replace h := q_be h
    obtain ⟨v5, hv, h⟩ := h
    refine ⟨⟨some _, rfl⟩, ⟨_, cu4⟩, ?_⟩
    refine rX12_near hv ?_
    refine ⟨by decide, ?_⟩
    refine rX12_alpha rfl ?_
    refine ⟨by decide, ?_⟩
    refine rX12_alpha rfl ?_
    refine rX12_part rfl ?_
    refine ⟨by decide, ?_⟩
    refine rX12_alpha rfl ?_
    refine rX12_part rfl ?_
    refine ⟨by decide, ?_⟩
    refine rX12_alpha rfl ?_
    refine rX12_part rfl ?_
    refine ⟨by decide, by decide, ?_⟩
    exact ps_weak (hh (x4 + (fX12_alpha v5), x5 + ((fX12_alpha v5) * (fX12_part v5 (0 : Int32))), x6 + ((fX12_alpha v5) * (fX12_part v5 (1 : Int32))), x7 + ((fX12_alpha v5) * (fX12_part v5 (2 : Int32))), x9 + (1 : Int32)) (Option.some.inj h).symm) ⟨rfl, rfl, rfl, rfl, rfl, rfl, rfl, rfl, rfl, rfl, trivial⟩
noncomputable def bX12_soft_17 (g : ps_G) (x0 : Nat) (x1 : Int32) (x2 : Int32) (x3 : Int32) (x4 : Int32) (x5 : Int32) (x6 : Int32) (x7 : Int32) (x8 : Int32) : Option ((Int32 × Int32 × Int32 × Int32 × Int32) ⊕ (Int32 × Int32 × Int32 × Int32)) := if (x3 + x1) < x8 then (some (.inr (x4, x5, x6, x7))) else (Option.bind (q_lp (fun s => bX12_soft_30 g x0 x1 x2 x3 x8 s.1 s.2.1 s.2.2.1 s.2.2.2.1 s.2.2.2.2) (x4, x5, x6, x7, x2 - x1)) fun s8 => some (.inl (s8.1, s8.2.1, s8.2.2.1, s8.2.2.2, x8 + (1 : Int32))))
theorem pbX12_soft_17 {d : Nat} {Q : ps_Rs → ps_G → Prop} {g : ps_G} {x0 : Nat} {x1 : Int32} {x2 : Int32} {x3 : Int32} {x4 : Int32} {x5 : Int32} {x6 : Int32} {x7 : Int32} {x8 : Int32} {x : (Int32 × Int32 × Int32 × Int32 × Int32) ⊕ (Int32 × Int32 × Int32 × Int32)} (h : bX12_soft_17 g x0 x1 x2 x3 x4 x5 x6 x7 x8 = some x) (hh : ∀ s' : Int32 × Int32 × Int32 × Int32 × Int32, x = .inl s' → ps_At mX12_soft (d + 2) 17 [(0, .ref x0), (1, .int x1), (2, .int x2), (3, .int x3), (4, .int s'.1), (5, .int s'.2.1), (6, .int s'.2.2.1), (7, .int s'.2.2.2.1), (8, .int s'.2.2.2.2)] [] g Q) (he : ∀ r' : Int32 × Int32 × Int32 × Int32, x = .inr r' → ps_At mX12_soft (d + 2) 121 [(1, .int x1), (4, .int r'.1), (5, .int r'.2.1), (6, .int r'.2.2.1), (7, .int r'.2.2.2)] [] g Q) : ps_At mX12_soft (d + 2) 17 [(0, .ref x0), (1, .int x1), (2, .int x2), (3, .int x3), (4, .int x4), (5, .int x5), (6, .int x6), (7, .int x7), (8, .int x8)] [] g Q := by
  unfold bX12_soft_17 at h
  refine sX12_soft_17 ?_
  refine And.intro (fun hc1 => ?_) (fun hc1 => ?_)
  · replace h := q_ifp (hc1) h
    exact ps_weak (he (x4, x5, x6, x7) (Option.some.inj h).symm) ⟨rfl, rfl, rfl, rfl, rfl, trivial⟩
  · replace h := q_ifn (hc1) h
    refine ⟨by decide, ?_⟩
    replace h := q_be h
    obtain ⟨s8, hl, h⟩ := h
    refine ps_weak (q_lp_ok hl (fun s => ps_At mX12_soft (d + 2) 30 [(0, .ref x0), (1, .int x1), (2, .int x2), (3, .int x3), (4, .int s.1), (5, .int s.2.1), (6, .int s.2.2.1), (7, .int s.2.2.2.1), (8, .int x8), (9, .int s.2.2.2.2)] [] g Q) (fun r => ps_At mX12_soft (d + 2) 115 [(0, .ref x0), (1, .int x1), (2, .int x2), (3, .int x3), (4, .int r.1), (5, .int r.2.1), (6, .int r.2.2.1), (7, .int r.2.2.2), (8, .int x8)] [] g Q) (fun s x hb hh he => pbX12_soft_30 hb hh he) ?_) ⟨rfl, rfl, rfl, rfl, rfl, rfl, rfl, rfl, rfl, rfl, trivial⟩
    refine (?_ : ps_At mX12_soft (d + 2) 115 [(0, .ref x0), (1, .int x1), (2, .int x2), (3, .int x3), (4, .int s8.1), (5, .int s8.2.1), (6, .int s8.2.2.1), (7, .int s8.2.2.2), (8, .int x8)] [] g Q)
    refine sX12_soft_115 ?_
    refine ⟨by decide, ?_⟩
    exact ps_weak (hh (s8.1, s8.2.1, s8.2.2.1, s8.2.2.2, x8 + (1 : Int32)) (Option.some.inj h).symm) ⟨rfl, rfl, rfl, rfl, rfl, rfl, rfl, rfl, rfl, trivial⟩
noncomputable def jX12_soft_186 (g : ps_G) (k0 : Int32) : Option (Int32) := some k0
theorem pjX12_soft_186 {d : Nat} {Q : ps_Rs → ps_G → Prop} {g : ps_G} {k0 : Int32} {r : Int32} (h : jX12_soft_186 g k0 = some r) (hk : Q (.inl (some (.int r))) g) : ps_At mX12_soft (d + 2) 186 [] [.int k0] g Q := by
  unfold jX12_soft_186 at h
  refine sX12_soft_186 ?_
  cases h
  exact ⟨rfl, hk⟩
noncomputable def fX12_soft (g : ps_G) (x0 : Nat) (x1 : Int32) (x2 : Int32) (x3 : Int32) : Option (Int32) := Option.bind (q_lp (fun s => bX12_soft_17 g x0 x1 x2 x3 s.1 s.2.1 s.2.2.1 s.2.2.2.1 s.2.2.2.2) ((0 : Int32), (0 : Int32), (0 : Int32), (0 : Int32), x3 - x1)) fun s11 => if ¬ s11.1 = 0 then (Option.bind (q_div (s11.2.1 + (s11.1 / (2 : Int32))) s11.1) fun v14 => Option.bind (q_div (s11.2.2.1 + (s11.1 / (2 : Int32))) s11.1) fun v15 => Option.bind (q_div (s11.2.2.2 + (s11.1 / (2 : Int32))) s11.1) fun v16 => Option.bind (q_div (s11.1 + (((((2 : Int32) * x1) + (1 : Int32)) * (((2 : Int32) * x1) + (1 : Int32))) / (2 : Int32))) ((((2 : Int32) * x1) + (1 : Int32)) * (((2 : Int32) * x1) + (1 : Int32)))) fun v17 => jX12_soft_186 g (fX12_colour v14 v15 v16 v17)) else (jX12_soft_186 g (0 : Int32))
theorem rX12_soft {d : Nat} {Q : ps_Rs → ps_G → Prop} {g : ps_G} {x0 : Nat} {x1 : Int32} {x2 : Int32} {x3 : Int32} {r : Int32} (h : fX12_soft g x0 x1 x2 x3 = some r) (hk : Q (.inl (some (.int r))) g) : ps_Ok mX12_soft (d + 2) [.ref x0, .int x1, .int x2, .int x3] g Q := by
  unfold fX12_soft at h
  refine sX12_soft_0 ?_
  refine ⟨by decide, by decide, by decide, by decide, by decide, ?_⟩
  replace h := q_be h
  obtain ⟨s11, hl, h⟩ := h
  refine ps_weak (q_lp_ok hl (fun s => ps_At mX12_soft (d + 2) 17 [(0, .ref x0), (1, .int x1), (2, .int x2), (3, .int x3), (4, .int s.1), (5, .int s.2.1), (6, .int s.2.2.1), (7, .int s.2.2.2.1), (8, .int s.2.2.2.2)] [] g Q) (fun r => ps_At mX12_soft (d + 2) 121 [(1, .int x1), (4, .int r.1), (5, .int r.2.1), (6, .int r.2.2.1), (7, .int r.2.2.2)] [] g Q) (fun s x hb hh he => pbX12_soft_17 hb hh he) ?_) ⟨rfl, rfl, rfl, rfl, rfl, rfl, rfl, rfl, rfl, trivial⟩
  refine (?_ : ps_At mX12_soft (d + 2) 121 [(1, .int x1), (4, .int s11.1), (5, .int s11.2.1), (6, .int s11.2.2.1), (7, .int s11.2.2.2)] [] g Q)
  refine sX12_soft_121 ?_
  refine ⟨by decide, ?_⟩
  refine And.intro (fun hc12 => ?_) (fun hc12 => ?_)
  · replace h := q_ifp (hc12) h
    refine sX12_soft_143 ?_
    replace h := q_be h
    obtain ⟨v14, hv, h⟩ := h
    replace hv := q_div_e hv
    obtain ⟨zv14, yv14⟩ := hv
    replace h := q_be h
    obtain ⟨v15, hv, h⟩ := h
    replace hv := q_div_e hv
    obtain ⟨zv15, yv15⟩ := hv
    replace h := q_be h
    obtain ⟨v16, hv, h⟩ := h
    replace hv := q_div_e hv
    obtain ⟨zv16, yv16⟩ := hv
    replace h := q_be h
    obtain ⟨v17, hv, h⟩ := h
    replace hv := q_div_e hv
    obtain ⟨zv17, yv17⟩ := hv
    refine ⟨by decide, _, rfl, zv14, _, yv14, by decide, _, rfl, zv15, _, yv15, by decide, _, rfl, zv16, _, yv16, by decide, _, rfl, zv17, _, yv17, ?_⟩
    refine rX12_colour rfl ?_
    exact ps_weak (pjX12_soft_186 h hk) trivial
  · replace h := q_ifn (hc12) h
    exact ps_weak (pjX12_soft_186 h hk) trivial
noncomputable def bX12_middle_47 (x0 : Nat) (x1 : Int32) (x2 : Int32) (x3 : Int32) (x4 : Int32) (x5 : Int32) (x6 : Int32) (x7 : Int32) (x8 : Int32) (g : ps_G) : Option ((Int32 × ps_G) ⊕ (Int32 × ps_G)) := if x8 ≤ 0 then (some (.inr (x8, g))) else (Option.bind (q_fR 12 27 g x0) fun v8 => Option.bind (v8) fun a9 => Option.bind (q_aI g a9 (x8 - (1 : Int32))) fun v10 => if v10 ≤ x7 then (some (.inr (x8, g))) else (Option.bind (q_fR 12 27 g x0) fun v13 => Option.bind (v13) fun a14 => Option.bind (q_fR 12 27 g x0) fun v15 => Option.bind (v15) fun a16 => Option.bind (q_aI g a16 (x8 - (1 : Int32))) fun v17 => Option.bind (q_wI g a14 x8 v17) fun g18 => some (.inl (x8 + (-1 : Int32), g18))))
theorem pbX12_middle_47 {d : Nat} {Q : ps_Rs → ps_G → Prop}  {x0 : Nat} {x1 : Int32} {x2 : Int32} {x3 : Int32} {x4 : Int32} {x5 : Int32} {x6 : Int32} {x7 : Int32} {x8 : Int32} {g : ps_G} {x : (Int32 × ps_G) ⊕ (Int32 × ps_G)} (h : bX12_middle_47 x0 x1 x2 x3 x4 x5 x6 x7 x8 g = some x) (hh : ∀ s' : Int32 × ps_G, x = .inl s' → ps_At mX12_middle (d + 2) 47 [(0, .ref x0), (1, .int x1), (2, .int x2), (3, .int x3), (4, .int x4), (5, .int x5), (6, .int x6), (7, .int x7), (8, .int s'.1)] [] s'.2 Q) (he : ∀ r' : Int32 × ps_G, x = .inr r' → ps_At mX12_middle (d + 2) 88 [(0, .ref x0), (1, .int x1), (2, .int x2), (3, .int x3), (4, .int x4), (5, .int x5), (6, .int x6), (7, .int x7), (8, .int r'.1)] [] r'.2 Q) : ps_At mX12_middle (d + 2) 47 [(0, .ref x0), (1, .int x1), (2, .int x2), (3, .int x3), (4, .int x4), (5, .int x5), (6, .int x6), (7, .int x7), (8, .int x8)] [] g Q := by
  unfold bX12_middle_47 at h
  refine sX12_middle_47 ?_
  refine And.intro (fun hc6 => ?_) (fun hc6 => ?_)
  · replace h := q_ifp (hc6) h
    exact ps_weak (he (x8, g) (Option.some.inj h).symm) ⟨rfl, rfl, rfl, rfl, rfl, rfl, rfl, rfl, rfl, trivial⟩
  · replace h := q_ifn (hc6) h
    replace h := q_be h
    obtain ⟨v8, hv, h⟩ := h
    replace hv := q_fR_e hv
    obtain ⟨_, cv8, dv8⟩ := hv
    replace h := q_be h
    obtain ⟨a9, ea9, h⟩ := h
    subst ea9
    replace h := q_be h
    obtain ⟨v10, hv, h⟩ := h
    replace hv := q_aI_e hv
    obtain ⟨_, _, cv10, iv10, yv10⟩ := hv
    refine ⟨⟨some _, rfl⟩, _, _, cv8, dv8, _, _, cv10, iv10, _, yv10, ?_⟩
    refine And.intro (fun hc11 => ?_) (fun hc11 => ?_)
    · replace h := q_ifp (hc11) h
      exact ps_weak (he (x8, g) (Option.some.inj h).symm) ⟨rfl, rfl, rfl, rfl, rfl, rfl, rfl, rfl, rfl, trivial⟩
    · replace h := q_ifn (hc11) h
      replace h := q_be h
      obtain ⟨v13, hv, h⟩ := h
      replace hv := q_fR_e hv
      obtain ⟨_, cv13, dv13⟩ := hv
      replace h := q_be h
      obtain ⟨a14, ea14, h⟩ := h
      subst ea14
      replace h := q_be h
      obtain ⟨v15, hv, h⟩ := h
      replace hv := q_fR_e hv
      obtain ⟨_, cv15, dv15⟩ := hv
      replace h := q_be h
      obtain ⟨a16, ea16, h⟩ := h
      subst ea16
      replace h := q_be h
      obtain ⟨v17, hv, h⟩ := h
      replace hv := q_aI_e hv
      obtain ⟨_, _, cv17, iv17, yv17⟩ := hv
      replace h := q_be h
      obtain ⟨g18, hv, h⟩ := h
      replace hv := q_wI_e hv
      obtain ⟨_, _, cg18, pg18, ig18, yg18⟩ := hv
      refine ⟨⟨some _, rfl⟩, _, _, cv13, dv13, ⟨some _, rfl⟩, _, _, cv15, dv15, _, _, cv17, iv17, _, yv17, _, _, cg18, pg18, ig18, _, yg18, by decide, ?_⟩
      exact ps_weak (hh (x8 + (-1 : Int32), g18) (Option.some.inj h).symm) ⟨rfl, rfl, rfl, rfl, rfl, rfl, rfl, rfl, rfl, trivial⟩
noncomputable def jX12_middle_88_21 (g : ps_G) (x0 : Nat) (x1 : Int32) (x2 : Int32) (x3 : Int32) (x4 : Int32) (x5 : Int32) (x6 : Int32) (x7 : Int32) (x8 : Int32) : Option ((Int32 × Int32 × ps_G) ⊕ (Int32 × ps_G)) := Option.bind (q_fR 12 27 g x0) fun v24 => Option.bind (v24) fun a25 => Option.bind (q_wI g a25 x8 x7) fun g26 => some (.inl (x4 + (1 : Int32), x6 + (1 : Int32), g26))
theorem pjX12_middle_88_21 {d : Nat} {Q : ps_Rs → ps_G → Prop} {g : ps_G} {x0 : Nat} {x1 : Int32} {x2 : Int32} {x3 : Int32} {x4 : Int32} {x5 : Int32} {x6 : Int32} {x7 : Int32} {x8 : Int32} {x : (Int32 × Int32 × ps_G) ⊕ (Int32 × ps_G)} (h : jX12_middle_88_21 g x0 x1 x2 x3 x4 x5 x6 x7 x8 = some x) (hh : ∀ s' : Int32 × Int32 × ps_G, x = .inl s' → ps_At mX12_middle (d + 2) 21 [(0, .ref x0), (1, .int x1), (2, .int x2), (3, .int x3), (4, .int s'.1), (5, .int x5), (6, .int s'.2.1)] [] s'.2.2 Q) (he : ∀ r' : Int32 × ps_G, x = .inr r' → ps_At mX12_middle (d + 2) 106 [(0, .ref x0), (1, .int x1), (2, .int x2), (3, .int x3), (4, .int r'.1), (5, .int x5)] [] r'.2 Q) : ps_At mX12_middle (d + 2) 88 [(0, .ref x0), (1, .int x1), (2, .int x2), (3, .int x3), (4, .int x4), (5, .int x5), (6, .int x6), (7, .int x7), (8, .int x8)] [] g Q := by
  unfold jX12_middle_88_21 at h
  refine sX12_middle_88 ?_
  replace h := q_be h
  obtain ⟨v24, hv, h⟩ := h
  replace hv := q_fR_e hv
  obtain ⟨_, cv24, dv24⟩ := hv
  replace h := q_be h
  obtain ⟨a25, ea25, h⟩ := h
  subst ea25
  replace h := q_be h
  obtain ⟨g26, hv, h⟩ := h
  replace hv := q_wI_e hv
  obtain ⟨_, _, cg26, pg26, ig26, yg26⟩ := hv
  refine ⟨⟨some _, rfl⟩, _, _, cv24, dv24, _, _, cg26, pg26, ig26, _, yg26, by decide, by decide, ?_⟩
  exact ps_weak (hh (x4 + (1 : Int32), x6 + (1 : Int32), g26) (Option.some.inj h).symm) ⟨rfl, rfl, rfl, rfl, rfl, rfl, rfl, trivial⟩
noncomputable def bX12_middle_21 (x0 : Nat) (x1 : Int32) (x2 : Int32) (x3 : Int32) (x5 : Int32) (x4 : Int32) (x6 : Int32) (g : ps_G) : Option ((Int32 × Int32 × ps_G) ⊕ (Int32 × ps_G)) := if (x1 + (1 : Int32)) < x6 then (some (.inr (x4, g))) else (Option.bind (q_ob 12 g x0) fun u4 => Option.bind (fX12_near g x0 x6 x5) fun v5 => Option.bind (q_lp (fun s => bX12_middle_47 x0 x1 x2 x3 x4 x5 x6 (fX12_part v5 x3) s.1 s.2) (x4, g)) fun s23 => jX12_middle_88_21 s23.2 x0 x1 x2 x3 x4 x5 x6 (fX12_part v5 x3) s23.1)
theorem pbX12_middle_21 {d : Nat} {Q : ps_Rs → ps_G → Prop}  {x0 : Nat} {x1 : Int32} {x2 : Int32} {x3 : Int32} {x5 : Int32} {x4 : Int32} {x6 : Int32} {g : ps_G} {x : (Int32 × Int32 × ps_G) ⊕ (Int32 × ps_G)} (h : bX12_middle_21 x0 x1 x2 x3 x5 x4 x6 g = some x) (hh : ∀ s' : Int32 × Int32 × ps_G, x = .inl s' → ps_At mX12_middle (d + 2) 21 [(0, .ref x0), (1, .int x1), (2, .int x2), (3, .int x3), (4, .int s'.1), (5, .int x5), (6, .int s'.2.1)] [] s'.2.2 Q) (he : ∀ r' : Int32 × ps_G, x = .inr r' → ps_At mX12_middle (d + 2) 106 [(0, .ref x0), (1, .int x1), (2, .int x2), (3, .int x3), (4, .int r'.1), (5, .int x5)] [] r'.2 Q) : ps_At mX12_middle (d + 2) 21 [(0, .ref x0), (1, .int x1), (2, .int x2), (3, .int x3), (4, .int x4), (5, .int x5), (6, .int x6)] [] g Q := by
  unfold bX12_middle_21 at h
  refine sX12_middle_21 ?_
  refine And.intro (fun hc2 => ?_) (fun hc2 => ?_)
  · replace h := q_ifp (hc2) h
    exact ps_weak (he (x4, g) (Option.some.inj h).symm) ⟨rfl, rfl, rfl, rfl, rfl, rfl, trivial⟩
  · replace h := q_ifn (hc2) h
    replace h := q_be h
    obtain ⟨u4, hv, h⟩ := h
    replace hv := q_ob_e hv
    obtain ⟨_, cu4⟩ := hv
    replace h := q_be h
    obtain ⟨v5, hv, h⟩ := h
    refine ⟨⟨some _, rfl⟩, ⟨_, cu4⟩, ?_⟩
    refine rX12_near hv ?_
    refine rX12_part rfl ?_
    refine ⟨by decide, by decide, ?_⟩
    replace h := q_be h
    obtain ⟨s23, hl, h⟩ := h
    refine ps_weak (q_lp_ok hl (fun s => ps_At mX12_middle (d + 2) 47 [(0, .ref x0), (1, .int x1), (2, .int x2), (3, .int x3), (4, .int x4), (5, .int x5), (6, .int x6), (7, .int (fX12_part v5 x3)), (8, .int s.1)] [] s.2 Q) (fun r => ps_At mX12_middle (d + 2) 88 [(0, .ref x0), (1, .int x1), (2, .int x2), (3, .int x3), (4, .int x4), (5, .int x5), (6, .int x6), (7, .int (fX12_part v5 x3)), (8, .int r.1)] [] r.2 Q) (fun s x hb hh he => pbX12_middle_47 hb hh he) ?_) ⟨rfl, rfl, rfl, rfl, rfl, rfl, rfl, rfl, rfl, trivial⟩
    refine (?_ : ps_At mX12_middle (d + 2) 88 [(0, .ref x0), (1, .int x1), (2, .int x2), (3, .int x3), (4, .int x4), (5, .int x5), (6, .int x6), (7, .int (fX12_part v5 x3)), (8, .int s23.1)] [] s23.2 Q)
    exact ps_weak (pjX12_middle_88_21 h hh he) ⟨rfl, rfl, rfl, rfl, rfl, rfl, rfl, rfl, rfl, trivial⟩
noncomputable def bX12_middle_8 (x0 : Nat) (x1 : Int32) (x2 : Int32) (x3 : Int32) (x4 : Int32) (x5 : Int32) (g : ps_G) : Option ((Int32 × Int32 × ps_G) ⊕ (ps_G)) := if (x2 + (1 : Int32)) < x5 then (some (.inr g)) else (Option.bind (q_lp (fun s => bX12_middle_21 x0 x1 x2 x3 x5 s.1 s.2.1 s.2.2) (x4, x1 - (1 : Int32), g)) fun s29 => some (.inl (s29.1, x5 + (1 : Int32), s29.2)))
theorem pbX12_middle_8 {d : Nat} {Q : ps_Rs → ps_G → Prop}  {x0 : Nat} {x1 : Int32} {x2 : Int32} {x3 : Int32} {x4 : Int32} {x5 : Int32} {g : ps_G} {x : (Int32 × Int32 × ps_G) ⊕ (ps_G)} (h : bX12_middle_8 x0 x1 x2 x3 x4 x5 g = some x) (hh : ∀ s' : Int32 × Int32 × ps_G, x = .inl s' → ps_At mX12_middle (d + 2) 8 [(0, .ref x0), (1, .int x1), (2, .int x2), (3, .int x3), (4, .int s'.1), (5, .int s'.2.1)] [] s'.2.2 Q) (he : ∀ r' : ps_G, x = .inr r' → ps_At mX12_middle (d + 2) 112 [(0, .ref x0)] [] r' Q) : ps_At mX12_middle (d + 2) 8 [(0, .ref x0), (1, .int x1), (2, .int x2), (3, .int x3), (4, .int x4), (5, .int x5)] [] g Q := by
  unfold bX12_middle_8 at h
  refine sX12_middle_8 ?_
  refine And.intro (fun hc1 => ?_) (fun hc1 => ?_)
  · replace h := q_ifp (hc1) h
    exact ps_weak (he g (Option.some.inj h).symm) ⟨rfl, trivial⟩
  · replace h := q_ifn (hc1) h
    refine ⟨by decide, ?_⟩
    replace h := q_be h
    obtain ⟨s29, hl, h⟩ := h
    refine ps_weak (q_lp_ok hl (fun s => ps_At mX12_middle (d + 2) 21 [(0, .ref x0), (1, .int x1), (2, .int x2), (3, .int x3), (4, .int s.1), (5, .int x5), (6, .int s.2.1)] [] s.2.2 Q) (fun r => ps_At mX12_middle (d + 2) 106 [(0, .ref x0), (1, .int x1), (2, .int x2), (3, .int x3), (4, .int r.1), (5, .int x5)] [] r.2 Q) (fun s x hb hh he => pbX12_middle_21 hb hh he) ?_) ⟨rfl, rfl, rfl, rfl, rfl, rfl, rfl, trivial⟩
    refine (?_ : ps_At mX12_middle (d + 2) 106 [(0, .ref x0), (1, .int x1), (2, .int x2), (3, .int x3), (4, .int s29.1), (5, .int x5)] [] s29.2 Q)
    refine sX12_middle_106 ?_
    refine ⟨by decide, ?_⟩
    exact ps_weak (hh (s29.1, x5 + (1 : Int32), s29.2) (Option.some.inj h).symm) ⟨rfl, rfl, rfl, rfl, rfl, rfl, trivial⟩
noncomputable def fX12_middle (g : ps_G) (x0 : Nat) (x1 : Int32) (x2 : Int32) (x3 : Int32) : Option (Int32 × ps_G) := Option.bind (q_lp (fun s => bX12_middle_8 x0 x1 x2 x3 s.1 s.2.1 s.2.2) ((0 : Int32), x2 - (1 : Int32), g)) fun s32 => Option.bind (q_fR 12 27 s32 x0) fun v33 => Option.bind (v33) fun a34 => Option.bind (q_aI s32 a34 (4 : Int32)) fun v35 => some (v35, s32)
theorem rX12_middle {d : Nat} {Q : ps_Rs → ps_G → Prop} {g : ps_G} {x0 : Nat} {x1 : Int32} {x2 : Int32} {x3 : Int32} {r : Int32 × ps_G} (h : fX12_middle g x0 x1 x2 x3 = some r) (hk : Q (.inl (some (.int r.1))) r.2) : ps_Ok mX12_middle (d + 2) [.ref x0, .int x1, .int x2, .int x3] g Q := by
  unfold fX12_middle at h
  refine sX12_middle_0 ?_
  refine ⟨by decide, by decide, ?_⟩
  replace h := q_be h
  obtain ⟨s32, hl, h⟩ := h
  refine ps_weak (q_lp_ok hl (fun s => ps_At mX12_middle (d + 2) 8 [(0, .ref x0), (1, .int x1), (2, .int x2), (3, .int x3), (4, .int s.1), (5, .int s.2.1)] [] s.2.2 Q) (fun r => ps_At mX12_middle (d + 2) 112 [(0, .ref x0)] [] r Q) (fun s x hb hh he => pbX12_middle_8 hb hh he) ?_) ⟨rfl, rfl, rfl, rfl, rfl, rfl, trivial⟩
  refine (?_ : ps_At mX12_middle (d + 2) 112 [(0, .ref x0)] [] s32 Q)
  refine sX12_middle_112 ?_
  replace h := q_be h
  obtain ⟨v33, hv, h⟩ := h
  replace hv := q_fR_e hv
  obtain ⟨_, cv33, dv33⟩ := hv
  replace h := q_be h
  obtain ⟨a34, ea34, h⟩ := h
  subst ea34
  replace h := q_be h
  obtain ⟨v35, hv, h⟩ := h
  replace hv := q_aI_e hv
  obtain ⟨_, _, cv35, iv35, yv35⟩ := hv
  cases h
  exact ⟨⟨some _, rfl⟩, _, _, cv33, dv33, _, _, cv35, iv35, _, yv35, rfl, hk⟩
def fX12_bright (x0 : Int32) : Int32 := q_shr ((((77 : Int32) * (fX12_part x0 (0 : Int32))) + ((151 : Int32) * (fX12_part x0 (1 : Int32)))) + ((28 : Int32) * (fX12_part x0 (2 : Int32)))) (8 : Int32)
theorem rX12_bright {d : Nat} {Q : ps_Rs → ps_G → Prop} {g : ps_G} {x0 : Int32} {r : Int32} (h : fX12_bright x0 = r) (hk : Q (.inl (some (.int r))) g) : ps_Ok mX12_bright (d + 1) [.int x0] g Q := by
  unfold fX12_bright at h
  refine sX12_bright_0 ?_
  refine rX12_part rfl ?_
  refine rX12_part rfl ?_
  refine rX12_part rfl ?_
  subst h
  exact ⟨rfl, hk⟩
noncomputable def fX12_brightAt (g : ps_G) (x0 : Nat) (x1 : Int32) (x2 : Int32) : Option (Int32) := Option.bind (q_ob 12 g x0) fun u1 => Option.bind (fX12_near g x0 x1 x2) fun v2 => some (fX12_bright v2)
theorem rX12_brightAt {d : Nat} {Q : ps_Rs → ps_G → Prop} {g : ps_G} {x0 : Nat} {x1 : Int32} {x2 : Int32} {r : Int32} (h : fX12_brightAt g x0 x1 x2 = some r) (hk : Q (.inl (some (.int r))) g) : ps_Ok mX12_brightAt (d + 2) [.ref x0, .int x1, .int x2] g Q := by
  unfold fX12_brightAt at h
  refine sX12_brightAt_0 ?_
  replace h := q_be h
  obtain ⟨u1, hv, h⟩ := h
  replace hv := q_ob_e hv
  obtain ⟨_, cu1⟩ := hv
  replace h := q_be h
  obtain ⟨v2, hv, h⟩ := h
  refine ⟨⟨some _, rfl⟩, ⟨_, cu1⟩, ?_⟩
  refine rX12_near hv ?_
  refine rX12_bright rfl ?_
  cases h
  exact ⟨rfl, hk⟩
def fX12_abs (x0 : Int32) : Int32 := (if 0 ≤ x0 then x0 else -x0)
theorem rX12_abs {d : Nat} {Q : ps_Rs → ps_G → Prop} {g : ps_G} {x0 : Int32} {r : Int32} (h : fX12_abs x0 = r) (hk : Q (.inl (some (.int r))) g) : ps_Ok mX12_abs d [.int x0] g Q := by
  unfold fX12_abs at h
  refine sX12_abs_0 ?_
  have kJ3 : ∀ w2 : Int32, w2 = (if 0 ≤ x0 then x0 else -x0) → ps_At mX12_abs d 10 [] [.int w2] g Q := by
    rintro _ rfl
    refine sX12_abs_10 ?_
    subst h
    exact ⟨rfl, hk⟩
  refine And.intro (fun hc1 => ?_) (fun hc1 => ?_)
  · refine sX12_abs_9 ?_
    exact ps_weak (kJ3 _ (if_pos (hc1)).symm) trivial
  · exact ps_weak (kJ3 _ (if_neg (hc1)).symm) trivial
def fX12_least (x0 : Int32) (x1 : Int32) : Int32 := (if x1 ≤ x0 then x1 else x0)
theorem rX12_least {d : Nat} {Q : ps_Rs → ps_G → Prop} {g : ps_G} {x0 : Int32} {x1 : Int32} {r : Int32} (h : fX12_least x0 x1 = r) (hk : Q (.inl (some (.int r))) g) : ps_Ok mX12_least d [.int x0, .int x1] g Q := by
  unfold fX12_least at h
  refine sX12_least_0 ?_
  have kJ3 : ∀ w2 : Int32, w2 = (if x1 ≤ x0 then x1 else x0) → ps_At mX12_least d 10 [] [.int w2] g Q := by
    rintro _ rfl
    refine sX12_least_10 ?_
    subst h
    exact ⟨rfl, hk⟩
  refine And.intro (fun hc1 => ?_) (fun hc1 => ?_)
  · refine sX12_least_9 ?_
    exact ps_weak (kJ3 _ (if_pos (hc1)).symm) trivial
  · exact ps_weak (kJ3 _ (if_neg (hc1)).symm) trivial
noncomputable def fX12_edges (g : ps_G) (x0 : Nat) (x1 : Int32) (x2 : Int32) : Option (Int32) := Option.bind (q_ob 12 g x0) fun u1 => Option.bind (fX12_brightAt g x0 (x1 + (1 : Int32)) (x2 - (1 : Int32))) fun v2 => Option.bind (q_ob 12 g x0) fun u3 => Option.bind (fX12_brightAt g x0 (x1 + (1 : Int32)) x2) fun v4 => Option.bind (q_ob 12 g x0) fun u5 => Option.bind (fX12_brightAt g x0 (x1 + (1 : Int32)) (x2 + (1 : Int32))) fun v6 => Option.bind (q_ob 12 g x0) fun u7 => Option.bind (fX12_brightAt g x0 (x1 - (1 : Int32)) (x2 - (1 : Int32))) fun v8 => Option.bind (q_ob 12 g x0) fun u9 => Option.bind (fX12_brightAt g x0 (x1 - (1 : Int32)) x2) fun v10 => Option.bind (q_ob 12 g x0) fun u11 => Option.bind (fX12_brightAt g x0 (x1 - (1 : Int32)) (x2 + (1 : Int32))) fun v12 => Option.bind (q_ob 12 g x0) fun u13 => Option.bind (fX12_brightAt g x0 (x1 - (1 : Int32)) (x2 + (1 : Int32))) fun v14 => Option.bind (q_ob 12 g x0) fun u15 => Option.bind (fX12_brightAt g x0 x1 (x2 + (1 : Int32))) fun v16 => Option.bind (q_ob 12 g x0) fun u17 => Option.bind (fX12_brightAt g x0 (x1 + (1 : Int32)) (x2 + (1 : Int32))) fun v18 => Option.bind (q_ob 12 g x0) fun u19 => Option.bind (fX12_brightAt g x0 (x1 - (1 : Int32)) (x2 - (1 : Int32))) fun v20 => Option.bind (q_ob 12 g x0) fun u21 => Option.bind (fX12_brightAt g x0 x1 (x2 - (1 : Int32))) fun v22 => Option.bind (q_ob 12 g x0) fun u23 => Option.bind (fX12_brightAt g x0 (x1 + (1 : Int32)) (x2 - (1 : Int32))) fun v24 => some (fX12_least (255 : Int32) ((fX12_abs (((((v2 + ((2 : Int32) * v4)) + v6) - v8) - ((2 : Int32) * v10)) - v12)) + (fX12_abs (((((v14 + ((2 : Int32) * v16)) + v18) - v20) - ((2 : Int32) * v22)) - v24))))
theorem rX12_edges {d : Nat} {Q : ps_Rs → ps_G → Prop} {g : ps_G} {x0 : Nat} {x1 : Int32} {x2 : Int32} {r : Int32} (h : fX12_edges g x0 x1 x2 = some r) (hk : Q (.inl (some (.int r))) g) : ps_Ok mX12_edges (d + 3) [.ref x0, .int x1, .int x2] g Q := by
  unfold fX12_edges at h
  refine sX12_edges_0 ?_
  replace h := q_be h
  obtain ⟨u1, hv, h⟩ := h
  replace hv := q_ob_e hv
  obtain ⟨_, cu1⟩ := hv
  replace h := q_be h
  obtain ⟨v2, hv, h⟩ := h
  refine ⟨⟨some _, rfl⟩, ⟨_, cu1⟩, ?_⟩
  refine rX12_brightAt hv ?_
  replace h := q_be h
  obtain ⟨u3, hv, h⟩ := h
  replace hv := q_ob_e hv
  obtain ⟨_, cu3⟩ := hv
  replace h := q_be h
  obtain ⟨v4, hv, h⟩ := h
  refine ⟨⟨some _, rfl⟩, ⟨_, cu3⟩, ?_⟩
  refine rX12_brightAt hv ?_
  replace h := q_be h
  obtain ⟨u5, hv, h⟩ := h
  replace hv := q_ob_e hv
  obtain ⟨_, cu5⟩ := hv
  replace h := q_be h
  obtain ⟨v6, hv, h⟩ := h
  refine ⟨⟨some _, rfl⟩, ⟨_, cu5⟩, ?_⟩
  refine rX12_brightAt hv ?_
  replace h := q_be h
  obtain ⟨u7, hv, h⟩ := h
  replace hv := q_ob_e hv
  obtain ⟨_, cu7⟩ := hv
  replace h := q_be h
  obtain ⟨v8, hv, h⟩ := h
  refine ⟨⟨some _, rfl⟩, ⟨_, cu7⟩, ?_⟩
  refine rX12_brightAt hv ?_
  replace h := q_be h
  obtain ⟨u9, hv, h⟩ := h
  replace hv := q_ob_e hv
  obtain ⟨_, cu9⟩ := hv
  replace h := q_be h
  obtain ⟨v10, hv, h⟩ := h
  refine ⟨⟨some _, rfl⟩, ⟨_, cu9⟩, ?_⟩
  refine rX12_brightAt hv ?_
  replace h := q_be h
  obtain ⟨u11, hv, h⟩ := h
  replace hv := q_ob_e hv
  obtain ⟨_, cu11⟩ := hv
  replace h := q_be h
  obtain ⟨v12, hv, h⟩ := h
  refine ⟨⟨some _, rfl⟩, ⟨_, cu11⟩, ?_⟩
  refine rX12_brightAt hv ?_
  replace h := q_be h
  obtain ⟨u13, hv, h⟩ := h
  replace hv := q_ob_e hv
  obtain ⟨_, cu13⟩ := hv
  replace h := q_be h
  obtain ⟨v14, hv, h⟩ := h
  refine ⟨by decide, ⟨some _, rfl⟩, ⟨_, cu13⟩, ?_⟩
  refine rX12_brightAt hv ?_
  replace h := q_be h
  obtain ⟨u15, hv, h⟩ := h
  replace hv := q_ob_e hv
  obtain ⟨_, cu15⟩ := hv
  replace h := q_be h
  obtain ⟨v16, hv, h⟩ := h
  refine ⟨⟨some _, rfl⟩, ⟨_, cu15⟩, ?_⟩
  refine rX12_brightAt hv ?_
  replace h := q_be h
  obtain ⟨u17, hv, h⟩ := h
  replace hv := q_ob_e hv
  obtain ⟨_, cu17⟩ := hv
  replace h := q_be h
  obtain ⟨v18, hv, h⟩ := h
  refine ⟨⟨some _, rfl⟩, ⟨_, cu17⟩, ?_⟩
  refine rX12_brightAt hv ?_
  replace h := q_be h
  obtain ⟨u19, hv, h⟩ := h
  replace hv := q_ob_e hv
  obtain ⟨_, cu19⟩ := hv
  replace h := q_be h
  obtain ⟨v20, hv, h⟩ := h
  refine ⟨⟨some _, rfl⟩, ⟨_, cu19⟩, ?_⟩
  refine rX12_brightAt hv ?_
  refine sX12_edges_110 ?_
  replace h := q_be h
  obtain ⟨u21, hv, h⟩ := h
  replace hv := q_ob_e hv
  obtain ⟨_, cu21⟩ := hv
  replace h := q_be h
  obtain ⟨v22, hv, h⟩ := h
  refine ⟨⟨some _, rfl⟩, ⟨_, cu21⟩, ?_⟩
  refine rX12_brightAt hv ?_
  replace h := q_be h
  obtain ⟨u23, hv, h⟩ := h
  replace hv := q_ob_e hv
  obtain ⟨_, cu23⟩ := hv
  replace h := q_be h
  obtain ⟨v24, hv, h⟩ := h
  refine ⟨⟨some _, rfl⟩, ⟨_, cu23⟩, ?_⟩
  refine rX12_brightAt hv ?_
  refine ⟨by decide, ?_⟩
  refine rX12_abs rfl ?_
  refine rX12_abs rfl ?_
  refine rX12_least rfl ?_
  cases h
  exact ⟨rfl, hk⟩
noncomputable def jX12_hue_169 (g : ps_G) (x1 : Int32) (x2 : Int32) (x6 : Int32) (x7 : Int32) (x8 : Int32) (k0 : Int32) : Option (Int32) := if ((q_rem ((q_rem (k0 + ((6 : Int32) * x2)) (1536 : Int32)) + (1536 : Int32)) (1536 : Int32)) / (256 : Int32)) = 0 then (some (fX12_colour x6 (x7 + ((x8 * (q_rem (q_rem ((q_rem (k0 + ((6 : Int32) * x2)) (1536 : Int32)) + (1536 : Int32)) (1536 : Int32)) (256 : Int32))) / (256 : Int32))) x7 (fX12_alpha x1))) else (if ((q_rem ((q_rem (k0 + ((6 : Int32) * x2)) (1536 : Int32)) + (1536 : Int32)) (1536 : Int32)) / (256 : Int32)) = 1 then (some (fX12_colour (x6 - ((x8 * (q_rem (q_rem ((q_rem (k0 + ((6 : Int32) * x2)) (1536 : Int32)) + (1536 : Int32)) (1536 : Int32)) (256 : Int32))) / (256 : Int32))) x6 x7 (fX12_alpha x1))) else (if ((q_rem ((q_rem (k0 + ((6 : Int32) * x2)) (1536 : Int32)) + (1536 : Int32)) (1536 : Int32)) / (256 : Int32)) = 2 then (some (fX12_colour x7 x6 (x7 + ((x8 * (q_rem (q_rem ((q_rem (k0 + ((6 : Int32) * x2)) (1536 : Int32)) + (1536 : Int32)) (1536 : Int32)) (256 : Int32))) / (256 : Int32))) (fX12_alpha x1))) else (if ((q_rem ((q_rem (k0 + ((6 : Int32) * x2)) (1536 : Int32)) + (1536 : Int32)) (1536 : Int32)) / (256 : Int32)) = 3 then (some (fX12_colour x7 (x6 - ((x8 * (q_rem (q_rem ((q_rem (k0 + ((6 : Int32) * x2)) (1536 : Int32)) + (1536 : Int32)) (1536 : Int32)) (256 : Int32))) / (256 : Int32))) x6 (fX12_alpha x1))) else (if ((q_rem ((q_rem (k0 + ((6 : Int32) * x2)) (1536 : Int32)) + (1536 : Int32)) (1536 : Int32)) / (256 : Int32)) = 4 then (some (fX12_colour (x7 + ((x8 * (q_rem (q_rem ((q_rem (k0 + ((6 : Int32) * x2)) (1536 : Int32)) + (1536 : Int32)) (1536 : Int32)) (256 : Int32))) / (256 : Int32))) x7 x6 (fX12_alpha x1))) else (some (fX12_colour x6 x7 (x6 - ((x8 * (q_rem (q_rem ((q_rem (k0 + ((6 : Int32) * x2)) (1536 : Int32)) + (1536 : Int32)) (1536 : Int32)) (256 : Int32))) / (256 : Int32))) (fX12_alpha x1)))))))
theorem pjX12_hue_169 {d : Nat} {Q : ps_Rs → ps_G → Prop} {g : ps_G} {x1 : Int32} {x2 : Int32} {x6 : Int32} {x7 : Int32} {x8 : Int32} {k0 : Int32} {r : Int32} (h : jX12_hue_169 g x1 x2 x6 x7 x8 k0 = some r) (hk : Q (.inl (some (.int r))) g) : ps_At mX12_hue (d + 1) 169 [(1, .int x1), (2, .int x2), (6, .int x6), (7, .int x7), (8, .int x8)] [.int k0] g Q := by
  unfold jX12_hue_169 at h
  refine sX12_hue_169 ?_
  refine ⟨by decide, by decide, _, rfl, by decide, _, rfl, by decide, by decide, _, rfl, by decide, by decide, _, rfl, by decide, by decide, _, rfl, by decide, ?_⟩
  refine rX12_alpha rfl ?_
  refine ⟨by decide, by decide, _, rfl, ?_⟩
  refine sX12_hue_240 ?_
  by_cases hc14 : ((q_rem ((q_rem (k0 + ((6 : Int32) * x2)) (1536 : Int32)) + (1536 : Int32)) (1536 : Int32)) / (256 : Int32)) = 0
  · replace h := q_ifp hc14 h
    have eT : ps_tsel 240 96 0 4 #[36, 48, 60, 72, 84] ((q_rem ((q_rem (k0 + ((6 : Int32) * x2)) (1536 : Int32)) + (1536 : Int32)) (1536 : Int32)) / (256 : Int32)) = 276 := by
      rw [hc14]; decide +kernel
    refine ps_at_eq eT ?_
    refine sX12_hue_276 ?_
    refine rX12_colour rfl ?_
    cases h
    exact ⟨rfl, hk⟩
  replace h := q_ifn hc14 h
  by_cases hc15 : ((q_rem ((q_rem (k0 + ((6 : Int32) * x2)) (1536 : Int32)) + (1536 : Int32)) (1536 : Int32)) / (256 : Int32)) = 1
  · replace h := q_ifp hc15 h
    have eT : ps_tsel 240 96 0 4 #[36, 48, 60, 72, 84] ((q_rem ((q_rem (k0 + ((6 : Int32) * x2)) (1536 : Int32)) + (1536 : Int32)) (1536 : Int32)) / (256 : Int32)) = 288 := by
      rw [hc15]; decide +kernel
    refine ps_at_eq eT ?_
    refine sX12_hue_288 ?_
    refine rX12_colour rfl ?_
    cases h
    exact ⟨rfl, hk⟩
  replace h := q_ifn hc15 h
  by_cases hc16 : ((q_rem ((q_rem (k0 + ((6 : Int32) * x2)) (1536 : Int32)) + (1536 : Int32)) (1536 : Int32)) / (256 : Int32)) = 2
  · replace h := q_ifp hc16 h
    have eT : ps_tsel 240 96 0 4 #[36, 48, 60, 72, 84] ((q_rem ((q_rem (k0 + ((6 : Int32) * x2)) (1536 : Int32)) + (1536 : Int32)) (1536 : Int32)) / (256 : Int32)) = 300 := by
      rw [hc16]; decide +kernel
    refine ps_at_eq eT ?_
    refine sX12_hue_300 ?_
    refine rX12_colour rfl ?_
    cases h
    exact ⟨rfl, hk⟩
  replace h := q_ifn hc16 h
  by_cases hc17 : ((q_rem ((q_rem (k0 + ((6 : Int32) * x2)) (1536 : Int32)) + (1536 : Int32)) (1536 : Int32)) / (256 : Int32)) = 3
  · replace h := q_ifp hc17 h
    have eT : ps_tsel 240 96 0 4 #[36, 48, 60, 72, 84] ((q_rem ((q_rem (k0 + ((6 : Int32) * x2)) (1536 : Int32)) + (1536 : Int32)) (1536 : Int32)) / (256 : Int32)) = 312 := by
      rw [hc17]; decide +kernel
    refine ps_at_eq eT ?_
    refine sX12_hue_312 ?_
    refine rX12_colour rfl ?_
    cases h
    exact ⟨rfl, hk⟩
  replace h := q_ifn hc17 h
  by_cases hc18 : ((q_rem ((q_rem (k0 + ((6 : Int32) * x2)) (1536 : Int32)) + (1536 : Int32)) (1536 : Int32)) / (256 : Int32)) = 4
  · replace h := q_ifp hc18 h
    have eT : ps_tsel 240 96 0 4 #[36, 48, 60, 72, 84] ((q_rem ((q_rem (k0 + ((6 : Int32) * x2)) (1536 : Int32)) + (1536 : Int32)) (1536 : Int32)) / (256 : Int32)) = 324 := by
      rw [hc18]; decide +kernel
    refine ps_at_eq eT ?_
    refine sX12_hue_324 ?_
    refine rX12_colour rfl ?_
    cases h
    exact ⟨rfl, hk⟩
  replace h := q_ifn hc18 h
  have eD : ps_tsel 240 96 0 4 #[36, 48, 60, 72, 84] ((q_rem ((q_rem (k0 + ((6 : Int32) * x2)) (1536 : Int32)) + (1536 : Int32)) (1536 : Int32)) / (256 : Int32)) = 336 := by
    refine q_tsd (by decide +kernel) (fun z h1 h2 => ?_)
    have hz : z = 0 ∨ z = 1 ∨ z = 2 ∨ z = 3 ∨ z = 4 := by omega
    rcases hz with rfl | rfl | rfl | rfl | rfl
    · exact Or.inl (q_tsx (v := 0) (fun z => hc14 z))
    · exact Or.inl (q_tsx (v := 1) (fun z => hc15 z))
    · exact Or.inl (q_tsx (v := 2) (fun z => hc16 z))
    · exact Or.inl (q_tsx (v := 3) (fun z => hc17 z))
    · exact Or.inl (q_tsx (v := 4) (fun z => hc18 z))
  refine ps_at_eq eD ?_
  refine sX12_hue_336 ?_
  refine rX12_colour rfl ?_
  cases h
  exact ⟨rfl, hk⟩
noncomputable def fX12_hue (g : ps_G) (x0 : Nat) (x1 : Int32) (x2 : Int32) : Option (Int32) := if ¬ ((if (fX12_part x1 (0 : Int32)) ≤ (fX12_part x1 (1 : Int32)) then (if (fX12_part x1 (1 : Int32)) ≤ (fX12_part x1 (2 : Int32)) then fX12_part x1 (2 : Int32) else fX12_part x1 (1 : Int32)) else (if (fX12_part x1 (0 : Int32)) ≤ (fX12_part x1 (2 : Int32)) then fX12_part x1 (2 : Int32) else fX12_part x1 (0 : Int32))) - (if (fX12_part x1 (1 : Int32)) ≤ (fX12_part x1 (0 : Int32)) then (if (fX12_part x1 (2 : Int32)) ≤ (fX12_part x1 (1 : Int32)) then fX12_part x1 (2 : Int32) else fX12_part x1 (1 : Int32)) else (if (fX12_part x1 (2 : Int32)) ≤ (fX12_part x1 (0 : Int32)) then fX12_part x1 (2 : Int32) else fX12_part x1 (0 : Int32)))) = 0 then (if ¬ (fX12_part x1 (0 : Int32)) = (if (fX12_part x1 (0 : Int32)) ≤ (fX12_part x1 (1 : Int32)) then (if (fX12_part x1 (1 : Int32)) ≤ (fX12_part x1 (2 : Int32)) then fX12_part x1 (2 : Int32) else fX12_part x1 (1 : Int32)) else (if (fX12_part x1 (0 : Int32)) ≤ (fX12_part x1 (2 : Int32)) then fX12_part x1 (2 : Int32) else fX12_part x1 (0 : Int32))) then (if ¬ (fX12_part x1 (1 : Int32)) = (if (fX12_part x1 (0 : Int32)) ≤ (fX12_part x1 (1 : Int32)) then (if (fX12_part x1 (1 : Int32)) ≤ (fX12_part x1 (2 : Int32)) then fX12_part x1 (2 : Int32) else fX12_part x1 (1 : Int32)) else (if (fX12_part x1 (0 : Int32)) ≤ (fX12_part x1 (2 : Int32)) then fX12_part x1 (2 : Int32) else fX12_part x1 (0 : Int32))) then (Option.bind (q_div ((256 : Int32) * ((fX12_part x1 (0 : Int32)) - (fX12_part x1 (1 : Int32)))) ((if (fX12_part x1 (0 : Int32)) ≤ (fX12_part x1 (1 : Int32)) then (if (fX12_part x1 (1 : Int32)) ≤ (fX12_part x1 (2 : Int32)) then fX12_part x1 (2 : Int32) else fX12_part x1 (1 : Int32)) else (if (fX12_part x1 (0 : Int32)) ≤ (fX12_part x1 (2 : Int32)) then fX12_part x1 (2 : Int32) else fX12_part x1 (0 : Int32))) - (if (fX12_part x1 (1 : Int32)) ≤ (fX12_part x1 (0 : Int32)) then (if (fX12_part x1 (2 : Int32)) ≤ (fX12_part x1 (1 : Int32)) then fX12_part x1 (2 : Int32) else fX12_part x1 (1 : Int32)) else (if (fX12_part x1 (2 : Int32)) ≤ (fX12_part x1 (0 : Int32)) then fX12_part x1 (2 : Int32) else fX12_part x1 (0 : Int32))))) fun v13 => jX12_hue_169 g x1 x2 (if (fX12_part x1 (0 : Int32)) ≤ (fX12_part x1 (1 : Int32)) then (if (fX12_part x1 (1 : Int32)) ≤ (fX12_part x1 (2 : Int32)) then fX12_part x1 (2 : Int32) else fX12_part x1 (1 : Int32)) else (if (fX12_part x1 (0 : Int32)) ≤ (fX12_part x1 (2 : Int32)) then fX12_part x1 (2 : Int32) else fX12_part x1 (0 : Int32))) (if (fX12_part x1 (1 : Int32)) ≤ (fX12_part x1 (0 : Int32)) then (if (fX12_part x1 (2 : Int32)) ≤ (fX12_part x1 (1 : Int32)) then fX12_part x1 (2 : Int32) else fX12_part x1 (1 : Int32)) else (if (fX12_part x1 (2 : Int32)) ≤ (fX12_part x1 (0 : Int32)) then fX12_part x1 (2 : Int32) else fX12_part x1 (0 : Int32))) ((if (fX12_part x1 (0 : Int32)) ≤ (fX12_part x1 (1 : Int32)) then (if (fX12_part x1 (1 : Int32)) ≤ (fX12_part x1 (2 : Int32)) then fX12_part x1 (2 : Int32) else fX12_part x1 (1 : Int32)) else (if (fX12_part x1 (0 : Int32)) ≤ (fX12_part x1 (2 : Int32)) then fX12_part x1 (2 : Int32) else fX12_part x1 (0 : Int32))) - (if (fX12_part x1 (1 : Int32)) ≤ (fX12_part x1 (0 : Int32)) then (if (fX12_part x1 (2 : Int32)) ≤ (fX12_part x1 (1 : Int32)) then fX12_part x1 (2 : Int32) else fX12_part x1 (1 : Int32)) else (if (fX12_part x1 (2 : Int32)) ≤ (fX12_part x1 (0 : Int32)) then fX12_part x1 (2 : Int32) else fX12_part x1 (0 : Int32)))) ((1024 : Int32) + v13)) else (Option.bind (q_div ((256 : Int32) * ((fX12_part x1 (2 : Int32)) - (fX12_part x1 (0 : Int32)))) ((if (fX12_part x1 (0 : Int32)) ≤ (fX12_part x1 (1 : Int32)) then (if (fX12_part x1 (1 : Int32)) ≤ (fX12_part x1 (2 : Int32)) then fX12_part x1 (2 : Int32) else fX12_part x1 (1 : Int32)) else (if (fX12_part x1 (0 : Int32)) ≤ (fX12_part x1 (2 : Int32)) then fX12_part x1 (2 : Int32) else fX12_part x1 (0 : Int32))) - (if (fX12_part x1 (1 : Int32)) ≤ (fX12_part x1 (0 : Int32)) then (if (fX12_part x1 (2 : Int32)) ≤ (fX12_part x1 (1 : Int32)) then fX12_part x1 (2 : Int32) else fX12_part x1 (1 : Int32)) else (if (fX12_part x1 (2 : Int32)) ≤ (fX12_part x1 (0 : Int32)) then fX12_part x1 (2 : Int32) else fX12_part x1 (0 : Int32))))) fun v19 => jX12_hue_169 g x1 x2 (if (fX12_part x1 (0 : Int32)) ≤ (fX12_part x1 (1 : Int32)) then (if (fX12_part x1 (1 : Int32)) ≤ (fX12_part x1 (2 : Int32)) then fX12_part x1 (2 : Int32) else fX12_part x1 (1 : Int32)) else (if (fX12_part x1 (0 : Int32)) ≤ (fX12_part x1 (2 : Int32)) then fX12_part x1 (2 : Int32) else fX12_part x1 (0 : Int32))) (if (fX12_part x1 (1 : Int32)) ≤ (fX12_part x1 (0 : Int32)) then (if (fX12_part x1 (2 : Int32)) ≤ (fX12_part x1 (1 : Int32)) then fX12_part x1 (2 : Int32) else fX12_part x1 (1 : Int32)) else (if (fX12_part x1 (2 : Int32)) ≤ (fX12_part x1 (0 : Int32)) then fX12_part x1 (2 : Int32) else fX12_part x1 (0 : Int32))) ((if (fX12_part x1 (0 : Int32)) ≤ (fX12_part x1 (1 : Int32)) then (if (fX12_part x1 (1 : Int32)) ≤ (fX12_part x1 (2 : Int32)) then fX12_part x1 (2 : Int32) else fX12_part x1 (1 : Int32)) else (if (fX12_part x1 (0 : Int32)) ≤ (fX12_part x1 (2 : Int32)) then fX12_part x1 (2 : Int32) else fX12_part x1 (0 : Int32))) - (if (fX12_part x1 (1 : Int32)) ≤ (fX12_part x1 (0 : Int32)) then (if (fX12_part x1 (2 : Int32)) ≤ (fX12_part x1 (1 : Int32)) then fX12_part x1 (2 : Int32) else fX12_part x1 (1 : Int32)) else (if (fX12_part x1 (2 : Int32)) ≤ (fX12_part x1 (0 : Int32)) then fX12_part x1 (2 : Int32) else fX12_part x1 (0 : Int32)))) ((512 : Int32) + v19))) else (Option.bind (q_div ((256 : Int32) * ((fX12_part x1 (1 : Int32)) - (fX12_part x1 (2 : Int32)))) ((if (fX12_part x1 (0 : Int32)) ≤ (fX12_part x1 (1 : Int32)) then (if (fX12_part x1 (1 : Int32)) ≤ (fX12_part x1 (2 : Int32)) then fX12_part x1 (2 : Int32) else fX12_part x1 (1 : Int32)) else (if (fX12_part x1 (0 : Int32)) ≤ (fX12_part x1 (2 : Int32)) then fX12_part x1 (2 : Int32) else fX12_part x1 (0 : Int32))) - (if (fX12_part x1 (1 : Int32)) ≤ (fX12_part x1 (0 : Int32)) then (if (fX12_part x1 (2 : Int32)) ≤ (fX12_part x1 (1 : Int32)) then fX12_part x1 (2 : Int32) else fX12_part x1 (1 : Int32)) else (if (fX12_part x1 (2 : Int32)) ≤ (fX12_part x1 (0 : Int32)) then fX12_part x1 (2 : Int32) else fX12_part x1 (0 : Int32))))) fun v22 => jX12_hue_169 g x1 x2 (if (fX12_part x1 (0 : Int32)) ≤ (fX12_part x1 (1 : Int32)) then (if (fX12_part x1 (1 : Int32)) ≤ (fX12_part x1 (2 : Int32)) then fX12_part x1 (2 : Int32) else fX12_part x1 (1 : Int32)) else (if (fX12_part x1 (0 : Int32)) ≤ (fX12_part x1 (2 : Int32)) then fX12_part x1 (2 : Int32) else fX12_part x1 (0 : Int32))) (if (fX12_part x1 (1 : Int32)) ≤ (fX12_part x1 (0 : Int32)) then (if (fX12_part x1 (2 : Int32)) ≤ (fX12_part x1 (1 : Int32)) then fX12_part x1 (2 : Int32) else fX12_part x1 (1 : Int32)) else (if (fX12_part x1 (2 : Int32)) ≤ (fX12_part x1 (0 : Int32)) then fX12_part x1 (2 : Int32) else fX12_part x1 (0 : Int32))) ((if (fX12_part x1 (0 : Int32)) ≤ (fX12_part x1 (1 : Int32)) then (if (fX12_part x1 (1 : Int32)) ≤ (fX12_part x1 (2 : Int32)) then fX12_part x1 (2 : Int32) else fX12_part x1 (1 : Int32)) else (if (fX12_part x1 (0 : Int32)) ≤ (fX12_part x1 (2 : Int32)) then fX12_part x1 (2 : Int32) else fX12_part x1 (0 : Int32))) - (if (fX12_part x1 (1 : Int32)) ≤ (fX12_part x1 (0 : Int32)) then (if (fX12_part x1 (2 : Int32)) ≤ (fX12_part x1 (1 : Int32)) then fX12_part x1 (2 : Int32) else fX12_part x1 (1 : Int32)) else (if (fX12_part x1 (2 : Int32)) ≤ (fX12_part x1 (0 : Int32)) then fX12_part x1 (2 : Int32) else fX12_part x1 (0 : Int32)))) v22)) else (some x1)
theorem rX12_hue {d : Nat} {Q : ps_Rs → ps_G → Prop} {g : ps_G} {x0 : Nat} {x1 : Int32} {x2 : Int32} {r : Int32} (h : fX12_hue g x0 x1 x2 = some r) (hk : Q (.inl (some (.int r))) g) : ps_Ok mX12_hue (d + 1) [.ref x0, .int x1, .int x2] g Q := by
  unfold fX12_hue at h
  refine sX12_hue_0 ?_
  refine rX12_part rfl ?_
  refine ⟨by decide, ?_⟩
  refine rX12_part rfl ?_
  refine ⟨by decide, ?_⟩
  refine rX12_part rfl ?_
  have kJ3 : ∀ w2 : Int32, w2 = (if (fX12_part x1 (0 : Int32)) ≤ (fX12_part x1 (1 : Int32)) then (if (fX12_part x1 (1 : Int32)) ≤ (fX12_part x1 (2 : Int32)) then fX12_part x1 (2 : Int32) else fX12_part x1 (1 : Int32)) else (if (fX12_part x1 (0 : Int32)) ≤ (fX12_part x1 (2 : Int32)) then fX12_part x1 (2 : Int32) else fX12_part x1 (0 : Int32))) → ps_At mX12_hue (d + 1) 55 [(1, .int x1), (2, .int x2), (3, .int (fX12_part x1 (0 : Int32))), (4, .int (fX12_part x1 (1 : Int32))), (5, .int (fX12_part x1 (2 : Int32)))] [.int w2] g Q := by
    rintro _ rfl
    refine sX12_hue_55 ?_
    have kJ6 : ∀ w5 : Int32, w5 = (if (fX12_part x1 (1 : Int32)) ≤ (fX12_part x1 (0 : Int32)) then (if (fX12_part x1 (2 : Int32)) ≤ (fX12_part x1 (1 : Int32)) then fX12_part x1 (2 : Int32) else fX12_part x1 (1 : Int32)) else (if (fX12_part x1 (2 : Int32)) ≤ (fX12_part x1 (0 : Int32)) then fX12_part x1 (2 : Int32) else fX12_part x1 (0 : Int32))) → ps_At mX12_hue (d + 1) 92 [(1, .int x1), (2, .int x2), (3, .int (fX12_part x1 (0 : Int32))), (4, .int (fX12_part x1 (1 : Int32))), (5, .int (fX12_part x1 (2 : Int32))), (6, .int (if (fX12_part x1 (0 : Int32)) ≤ (fX12_part x1 (1 : Int32)) then (if (fX12_part x1 (1 : Int32)) ≤ (fX12_part x1 (2 : Int32)) then fX12_part x1 (2 : Int32) else fX12_part x1 (1 : Int32)) else (if (fX12_part x1 (0 : Int32)) ≤ (fX12_part x1 (2 : Int32)) then fX12_part x1 (2 : Int32) else fX12_part x1 (0 : Int32))))] [.int w5] g Q := by
      rintro _ rfl
      refine sX12_hue_92 ?_
      refine ⟨by decide, by decide, ?_⟩
      refine And.intro (fun hc7 => ?_) (fun hc7 => ?_)
      · replace h := q_ifp (hc7) h
        refine sX12_hue_108 ?_
        refine And.intro (fun hc8 => ?_) (fun hc8 => ?_)
        · replace h := q_ifp (hc8) h
          refine sX12_hue_129 ?_
          refine And.intro (fun hc11 => ?_) (fun hc11 => ?_)
          · replace h := q_ifp (hc11) h
            refine sX12_hue_154 ?_
            replace h := q_be h
            obtain ⟨v13, hv, h⟩ := h
            replace hv := q_div_e hv
            obtain ⟨zv13, yv13⟩ := hv
            refine ⟨zv13, _, yv13, ?_⟩
            exact ps_weak (pjX12_hue_169 h hk) ⟨rfl, rfl, rfl, rfl, rfl, trivial⟩
          · replace h := q_ifn (hc11) h
            replace h := q_be h
            obtain ⟨v19, hv, h⟩ := h
            replace hv := q_div_e hv
            obtain ⟨zv19, yv19⟩ := hv
            refine ⟨zv19, _, yv19, ?_⟩
            exact ps_weak (pjX12_hue_169 h hk) ⟨rfl, rfl, rfl, rfl, rfl, trivial⟩
        · replace h := q_ifn (hc8) h
          replace h := q_be h
          obtain ⟨v22, hv, h⟩ := h
          replace hv := q_div_e hv
          obtain ⟨zv22, yv22⟩ := hv
          refine ⟨zv22, _, yv22, ?_⟩
          exact ps_weak (pjX12_hue_169 h hk) ⟨rfl, rfl, rfl, rfl, rfl, trivial⟩
      · replace h := q_ifn (hc7) h
        cases h
        exact ⟨rfl, hk⟩
    refine ⟨by decide, ?_⟩
    refine And.intro (fun hc4 => ?_) (fun hc4 => ?_)
    · refine sX12_hue_78 ?_
      have kJ29 : ∀ w28 : Int32, w28 = (if (fX12_part x1 (2 : Int32)) ≤ (fX12_part x1 (1 : Int32)) then fX12_part x1 (2 : Int32) else fX12_part x1 (1 : Int32)) → ps_At mX12_hue (d + 1) 92 [(1, .int x1), (2, .int x2), (3, .int (fX12_part x1 (0 : Int32))), (4, .int (fX12_part x1 (1 : Int32))), (5, .int (fX12_part x1 (2 : Int32))), (6, .int (if (fX12_part x1 (0 : Int32)) ≤ (fX12_part x1 (1 : Int32)) then (if (fX12_part x1 (1 : Int32)) ≤ (fX12_part x1 (2 : Int32)) then fX12_part x1 (2 : Int32) else fX12_part x1 (1 : Int32)) else (if (fX12_part x1 (0 : Int32)) ≤ (fX12_part x1 (2 : Int32)) then fX12_part x1 (2 : Int32) else fX12_part x1 (0 : Int32))))] [.int w28] g Q := by
        rintro _ rfl
        exact ps_weak (kJ6 _ (if_pos (hc4)).symm) ⟨rfl, rfl, rfl, rfl, rfl, rfl, trivial⟩
      refine And.intro (fun hc27 => ?_) (fun hc27 => ?_)
      · refine sX12_hue_90 ?_
        exact ps_weak (kJ29 _ (if_pos (hc27)).symm) ⟨rfl, rfl, rfl, rfl, rfl, rfl, trivial⟩
      · exact ps_weak (kJ29 _ (if_neg (hc27)).symm) ⟨rfl, rfl, rfl, rfl, rfl, rfl, trivial⟩
    · have kJ32 : ∀ w31 : Int32, w31 = (if (fX12_part x1 (2 : Int32)) ≤ (fX12_part x1 (0 : Int32)) then fX12_part x1 (2 : Int32) else fX12_part x1 (0 : Int32)) → ps_At mX12_hue (d + 1) 92 [(1, .int x1), (2, .int x2), (3, .int (fX12_part x1 (0 : Int32))), (4, .int (fX12_part x1 (1 : Int32))), (5, .int (fX12_part x1 (2 : Int32))), (6, .int (if (fX12_part x1 (0 : Int32)) ≤ (fX12_part x1 (1 : Int32)) then (if (fX12_part x1 (1 : Int32)) ≤ (fX12_part x1 (2 : Int32)) then fX12_part x1 (2 : Int32) else fX12_part x1 (1 : Int32)) else (if (fX12_part x1 (0 : Int32)) ≤ (fX12_part x1 (2 : Int32)) then fX12_part x1 (2 : Int32) else fX12_part x1 (0 : Int32))))] [.int w31] g Q := by
        rintro _ rfl
        exact ps_weak (kJ6 _ (if_neg (hc4)).symm) ⟨rfl, rfl, rfl, rfl, rfl, rfl, trivial⟩
      refine And.intro (fun hc30 => ?_) (fun hc30 => ?_)
      · refine sX12_hue_73 ?_
        exact ps_weak (kJ32 _ (if_pos (hc30)).symm) ⟨rfl, rfl, rfl, rfl, rfl, rfl, trivial⟩
      · exact ps_weak (kJ32 _ (if_neg (hc30)).symm) ⟨rfl, rfl, rfl, rfl, rfl, rfl, trivial⟩
  refine ⟨by decide, ?_⟩
  refine And.intro (fun hc1 => ?_) (fun hc1 => ?_)
  · refine sX12_hue_41 ?_
    have kJ35 : ∀ w34 : Int32, w34 = (if (fX12_part x1 (1 : Int32)) ≤ (fX12_part x1 (2 : Int32)) then fX12_part x1 (2 : Int32) else fX12_part x1 (1 : Int32)) → ps_At mX12_hue (d + 1) 55 [(1, .int x1), (2, .int x2), (3, .int (fX12_part x1 (0 : Int32))), (4, .int (fX12_part x1 (1 : Int32))), (5, .int (fX12_part x1 (2 : Int32)))] [.int w34] g Q := by
      rintro _ rfl
      exact ps_weak (kJ3 _ (if_pos (hc1)).symm) ⟨rfl, rfl, rfl, rfl, rfl, trivial⟩
    refine And.intro (fun hc33 => ?_) (fun hc33 => ?_)
    · refine sX12_hue_53 ?_
      exact ps_weak (kJ35 _ (if_pos (hc33)).symm) ⟨rfl, rfl, rfl, rfl, rfl, trivial⟩
    · exact ps_weak (kJ35 _ (if_neg (hc33)).symm) ⟨rfl, rfl, rfl, rfl, rfl, trivial⟩
  · have kJ38 : ∀ w37 : Int32, w37 = (if (fX12_part x1 (0 : Int32)) ≤ (fX12_part x1 (2 : Int32)) then fX12_part x1 (2 : Int32) else fX12_part x1 (0 : Int32)) → ps_At mX12_hue (d + 1) 55 [(1, .int x1), (2, .int x2), (3, .int (fX12_part x1 (0 : Int32))), (4, .int (fX12_part x1 (1 : Int32))), (5, .int (fX12_part x1 (2 : Int32)))] [.int w37] g Q := by
      rintro _ rfl
      exact ps_weak (kJ3 _ (if_neg (hc1)).symm) ⟨rfl, rfl, rfl, rfl, rfl, trivial⟩
    refine And.intro (fun hc36 => ?_) (fun hc36 => ?_)
    · refine sX12_hue_36 ?_
      exact ps_weak (kJ38 _ (if_pos (hc36)).symm) ⟨rfl, rfl, rfl, rfl, rfl, trivial⟩
    · exact ps_weak (kJ38 _ (if_neg (hc36)).symm) ⟨rfl, rfl, rfl, rfl, rfl, trivial⟩
noncomputable def fX12_grain (g : ps_G) (x0 : Nat) (x1 : Int32) (x2 : Int32) (x3 : Int32) : Option (Int32) := Option.bind (q_mod (q_ush ((((((x1 * (374761393 : Int32)) + (x2 * (668265263 : Int32))) + x3) * (1274126177 : Int32)) ^^^ (q_ush ((((x1 * (374761393 : Int32)) + (x2 * (668265263 : Int32))) + x3) * (1274126177 : Int32)) (13 : Int32))) * (1103515245 : Int32)) (24 : Int32)) (((2 : Int32) * (q_shr x3 (3 : Int32))) + (1 : Int32))) fun v1 => some (v1 - (q_shr x3 (3 : Int32)))
theorem rX12_grain {d : Nat} {Q : ps_Rs → ps_G → Prop} {g : ps_G} {x0 : Nat} {x1 : Int32} {x2 : Int32} {x3 : Int32} {r : Int32} (h : fX12_grain g x0 x1 x2 x3 = some r) (hk : Q (.inl (some (.int r))) g) : ps_Ok mX12_grain d [.ref x0, .int x1, .int x2, .int x3] g Q := by
  unfold fX12_grain at h
  refine sX12_grain_0 ?_
  replace h := q_be h
  obtain ⟨v1, hv, h⟩ := h
  replace hv := q_mod_e hv
  obtain ⟨zv1, yv1⟩ := hv
  cases h
  exact ⟨by decide, by decide, zv1, _, yv1, rfl, hk⟩
def fX12_clip (x0 : Int32) : Int32 := (if 0 ≤ x0 then (if x0 ≤ (255 : Int32) then x0 else (255 : Int32)) else (0 : Int32))
theorem rX12_clip {d : Nat} {Q : ps_Rs → ps_G → Prop} {g : ps_G} {x0 : Int32} {r : Int32} (h : fX12_clip x0 = r) (hk : Q (.inl (some (.int r))) g) : ps_Ok mX12_clip d [.int x0] g Q := by
  unfold fX12_clip at h
  refine sX12_clip_0 ?_
  have kJ3 : ∀ w2 : Int32, w2 = (if 0 ≤ x0 then (if x0 ≤ (255 : Int32) then x0 else (255 : Int32)) else (0 : Int32)) → ps_At mX12_clip d 22 [] [.int w2] g Q := by
    rintro _ rfl
    refine sX12_clip_22 ?_
    subst h
    exact ⟨rfl, hk⟩
  refine And.intro (fun hc1 => ?_) (fun hc1 => ?_)
  · refine sX12_clip_8 ?_
    have kJ6 : ∀ w5 : Int32, w5 = (if x0 ≤ (255 : Int32) then x0 else (255 : Int32)) → ps_At mX12_clip d 22 [] [.int w5] g Q := by
      rintro _ rfl
      exact ps_weak (kJ3 _ (if_pos (hc1)).symm) trivial
    refine And.intro (fun hc4 => ?_) (fun hc4 => ?_)
    · refine sX12_clip_21 ?_
      exact ps_weak (kJ6 _ (if_pos (hc4)).symm) trivial
    · exact ps_weak (kJ6 _ (if_neg (hc4)).symm) trivial
  · exact ps_weak (kJ3 _ (if_neg (hc1)).symm) trivial
noncomputable def bX12_products_6 (g : ps_G) (x0 : Nat) (x1 : Int32) (x2 : Int32) (x3 : Int32) (x4 : Int32) (x5 : Int32) : Option ((Int32 × Int32) ⊕ (Int32)) := if (9 : Int32) ≤ x5 then (some (.inr x4)) else (Option.bind (q_fR 12 24 g x0) fun v3 => Option.bind (v3) fun a4 => Option.bind (q_aI g a4 x5) fun v5 => Option.bind (q_ob 12 g x0) fun u6 => Option.bind (fX12_near g x0 ((x1 + (q_rem x5 (3 : Int32))) - (1 : Int32)) ((x2 + (x5 / (3 : Int32))) - (1 : Int32))) fun v7 => some (.inl (x4 + (v5 * (fX12_part v7 x3)), x5 + (1 : Int32))))
theorem pbX12_products_6 {d : Nat} {Q : ps_Rs → ps_G → Prop} {g : ps_G} {x0 : Nat} {x1 : Int32} {x2 : Int32} {x3 : Int32} {x4 : Int32} {x5 : Int32} {x : (Int32 × Int32) ⊕ (Int32)} (h : bX12_products_6 g x0 x1 x2 x3 x4 x5 = some x) (hh : ∀ s' : Int32 × Int32, x = .inl s' → ps_At mX12_products (d + 2) 6 [(0, .ref x0), (1, .int x1), (2, .int x2), (3, .int x3), (4, .int s'.1), (5, .int s'.2)] [] g Q) (he : ∀ r' : Int32, x = .inr r' → ps_At mX12_products (d + 2) 56 [(0, .ref x0), (4, .int r')] [] g Q) : ps_At mX12_products (d + 2) 6 [(0, .ref x0), (1, .int x1), (2, .int x2), (3, .int x3), (4, .int x4), (5, .int x5)] [] g Q := by
  unfold bX12_products_6 at h
  refine sX12_products_6 ?_
  refine And.intro (fun hc1 => ?_) (fun hc1 => ?_)
  · replace h := q_ifp (hc1) h
    exact ps_weak (he x4 (Option.some.inj h).symm) ⟨rfl, rfl, trivial⟩
  · replace h := q_ifn (hc1) h
    replace h := q_be h
    obtain ⟨v3, hv, h⟩ := h
    replace hv := q_fR_e hv
    obtain ⟨_, cv3, dv3⟩ := hv
    replace h := q_be h
    obtain ⟨a4, ea4, h⟩ := h
    subst ea4
    replace h := q_be h
    obtain ⟨v5, hv, h⟩ := h
    replace hv := q_aI_e hv
    obtain ⟨_, _, cv5, iv5, yv5⟩ := hv
    replace h := q_be h
    obtain ⟨u6, hv, h⟩ := h
    replace hv := q_ob_e hv
    obtain ⟨_, cu6⟩ := hv
    replace h := q_be h
    obtain ⟨v7, hv, h⟩ := h
    refine ⟨⟨some _, rfl⟩, _, _, cv3, dv3, _, _, cv5, iv5, _, yv5, ⟨some _, rfl⟩, by decide, _, rfl, by decide, _, rfl, ⟨_, cu6⟩, ?_⟩
    refine rX12_near hv ?_
    refine rX12_part rfl ?_
    refine ⟨by decide, by decide, ?_⟩
    exact ps_weak (hh (x4 + (v5 * (fX12_part v7 x3)), x5 + (1 : Int32)) (Option.some.inj h).symm) ⟨rfl, rfl, rfl, rfl, rfl, rfl, trivial⟩
noncomputable def fX12_products (g : ps_G) (x0 : Nat) (x1 : Int32) (x2 : Int32) (x3 : Int32) : Option (Int32) := Option.bind (q_lp (fun s => bX12_products_6 g x0 x1 x2 x3 s.1 s.2) ((0 : Int32), (0 : Int32))) fun s10 => Option.bind (q_fI 12 25 g x0) fun v11 => Option.bind (q_div s10 v11) fun v12 => Option.bind (q_fI 12 26 g x0) fun v13 => some (fX12_clip (v12 + v13))
theorem rX12_products {d : Nat} {Q : ps_Rs → ps_G → Prop} {g : ps_G} {x0 : Nat} {x1 : Int32} {x2 : Int32} {x3 : Int32} {r : Int32} (h : fX12_products g x0 x1 x2 x3 = some r) (hk : Q (.inl (some (.int r))) g) : ps_Ok mX12_products (d + 2) [.ref x0, .int x1, .int x2, .int x3] g Q := by
  unfold fX12_products at h
  refine sX12_products_0 ?_
  refine ⟨by decide, by decide, ?_⟩
  replace h := q_be h
  obtain ⟨s10, hl, h⟩ := h
  refine ps_weak (q_lp_ok hl (fun s => ps_At mX12_products (d + 2) 6 [(0, .ref x0), (1, .int x1), (2, .int x2), (3, .int x3), (4, .int s.1), (5, .int s.2)] [] g Q) (fun r => ps_At mX12_products (d + 2) 56 [(0, .ref x0), (4, .int r)] [] g Q) (fun s x hb hh he => pbX12_products_6 hb hh he) ?_) ⟨rfl, rfl, rfl, rfl, rfl, rfl, trivial⟩
  refine (?_ : ps_At mX12_products (d + 2) 56 [(0, .ref x0), (4, .int s10)] [] g Q)
  refine sX12_products_56 ?_
  replace h := q_be h
  obtain ⟨v11, hv, h⟩ := h
  replace hv := q_fI_e hv
  obtain ⟨_, cv11, dv11⟩ := hv
  replace h := q_be h
  obtain ⟨v12, hv, h⟩ := h
  replace hv := q_div_e hv
  obtain ⟨zv12, yv12⟩ := hv
  replace h := q_be h
  obtain ⟨v13, hv, h⟩ := h
  replace hv := q_fI_e hv
  obtain ⟨_, cv13, dv13⟩ := hv
  refine ⟨⟨some _, rfl⟩, _, _, cv11, dv11, zv12, _, yv12, ⟨some _, rfl⟩, _, _, cv13, dv13, ?_⟩
  refine rX12_clip rfl ?_
  cases h
  exact ⟨rfl, hk⟩
noncomputable def fX12_sampled (g : ps_G) (x0 : Nat) (x1 : Int32) (x2 : Int32) (x3 : Int32) (x4 : Int32) (x5 : Int32) (x6 : Int32) (x7 : Int32) (x8 : Int32) : Option (Int32) := if x1 = 1 then (some (fX12_clip (x3 + (q_shr ((x3 - x4) * x2) (6 : Int32))))) else (if x1 = 4 then (Option.bind (q_ob 12 g x0) fun u3 => Option.bind (fX12_near g x0 (x6 + (1 : Int32)) (x7 + (1 : Int32))) fun v4 => Option.bind (q_ob 12 g x0) fun u5 => Option.bind (fX12_near g x0 (x6 - (1 : Int32)) (x7 - (1 : Int32))) fun v6 => some (fX12_clip (((128 : Int32) + (fX12_part v4 x8)) - (fX12_part v6 x8)))) else (if x1 = 7 then (Option.bind (q_div (((((x3 * (x2 - (1 : Int32))) + (127 : Int32)) / (255 : Int32)) * (255 : Int32)) + ((x2 - (1 : Int32)) / (2 : Int32))) (x2 - (1 : Int32))) fun v8 => some v8) else (if x1 = 8 then (some ((255 : Int32) - x3)) else (if x1 = 9 then (some (fX12_clip (x3 + x5))) else (if x1 = 10 then (Option.bind (q_ob 12 g x0) fun u12 => Option.bind (fX12_products g x0 x6 x7 x8) fun v13 => some v13) else (Option.bind (q_ob 12 g x0) fun u14 => Option.bind (fX12_near g x0 x6 x7) fun v15 => some (fX12_clip ((fX12_bright v15) + (q_shr ((x3 - (fX12_bright v15)) * x2) (6 : Int32))))))))))
theorem rX12_sampled {d : Nat} {Q : ps_Rs → ps_G → Prop} {g : ps_G} {x0 : Nat} {x1 : Int32} {x2 : Int32} {x3 : Int32} {x4 : Int32} {x5 : Int32} {x6 : Int32} {x7 : Int32} {x8 : Int32} {r : Int32} (h : fX12_sampled g x0 x1 x2 x3 x4 x5 x6 x7 x8 = some r) (hk : Q (.inl (some (.int r))) g) : ps_Ok mX12_sampled (d + 3) [.ref x0, .int x1, .int x2, .int x3, .int x4, .int x5, .int x6, .int x7, .int x8] g Q := by
  unfold fX12_sampled at h
  refine sX12_sampled_0 ?_
  refine sX12_sampled_1 ?_
  by_cases hc1 : x1 = 1
  · replace h := q_ifp hc1 h
    have eT : ps_tsel 1 169 1 10 #[55, 169, 169, 70, 169, 169, 113, 144, 150, 158] x1 = 56 := by
      rw [hc1]; decide +kernel
    refine ps_at_eq eT ?_
    refine sX12_sampled_56 ?_
    refine rX12_clip rfl ?_
    cases h
    exact ⟨rfl, hk⟩
  replace h := q_ifn hc1 h
  by_cases hc2 : x1 = 4
  · replace h := q_ifp hc2 h
    have eT : ps_tsel 1 169 1 10 #[55, 169, 169, 70, 169, 169, 113, 144, 150, 158] x1 = 71 := by
      rw [hc2]; decide +kernel
    refine ps_at_eq eT ?_
    refine sX12_sampled_71 ?_
    replace h := q_be h
    obtain ⟨u3, hv, h⟩ := h
    replace hv := q_ob_e hv
    obtain ⟨_, cu3⟩ := hv
    replace h := q_be h
    obtain ⟨v4, hv, h⟩ := h
    refine ⟨⟨some _, rfl⟩, ⟨_, cu3⟩, ?_⟩
    refine rX12_near hv ?_
    refine rX12_part rfl ?_
    replace h := q_be h
    obtain ⟨u5, hv, h⟩ := h
    replace hv := q_ob_e hv
    obtain ⟨_, cu5⟩ := hv
    replace h := q_be h
    obtain ⟨v6, hv, h⟩ := h
    refine ⟨⟨some _, rfl⟩, ⟨_, cu5⟩, ?_⟩
    refine rX12_near hv ?_
    refine rX12_part rfl ?_
    refine rX12_clip rfl ?_
    cases h
    exact ⟨rfl, hk⟩
  replace h := q_ifn hc2 h
  by_cases hc7 : x1 = 7
  · replace h := q_ifp hc7 h
    have eT : ps_tsel 1 169 1 10 #[55, 169, 169, 70, 169, 169, 113, 144, 150, 158] x1 = 114 := by
      rw [hc7]; decide +kernel
    refine ps_at_eq eT ?_
    refine sX12_sampled_114 ?_
    replace h := q_be h
    obtain ⟨v8, hv, h⟩ := h
    replace hv := q_div_e hv
    obtain ⟨zv8, yv8⟩ := hv
    cases h
    exact ⟨by decide, _, rfl, by decide, by decide, _, rfl, zv8, _, yv8, rfl, hk⟩
  replace h := q_ifn hc7 h
  by_cases hc9 : x1 = 8
  · replace h := q_ifp hc9 h
    have eT : ps_tsel 1 169 1 10 #[55, 169, 169, 70, 169, 169, 113, 144, 150, 158] x1 = 145 := by
      rw [hc9]; decide +kernel
    refine ps_at_eq eT ?_
    refine sX12_sampled_145 ?_
    cases h
    exact ⟨rfl, hk⟩
  replace h := q_ifn hc9 h
  by_cases hc10 : x1 = 9
  · replace h := q_ifp hc10 h
    have eT : ps_tsel 1 169 1 10 #[55, 169, 169, 70, 169, 169, 113, 144, 150, 158] x1 = 151 := by
      rw [hc10]; decide +kernel
    refine ps_at_eq eT ?_
    refine sX12_sampled_151 ?_
    refine rX12_clip rfl ?_
    cases h
    exact ⟨rfl, hk⟩
  replace h := q_ifn hc10 h
  by_cases hc11 : x1 = 10
  · replace h := q_ifp hc11 h
    have eT : ps_tsel 1 169 1 10 #[55, 169, 169, 70, 169, 169, 113, 144, 150, 158] x1 = 159 := by
      rw [hc11]; decide +kernel
    refine ps_at_eq eT ?_
    refine sX12_sampled_159 ?_
    replace h := q_be h
    obtain ⟨u12, hv, h⟩ := h
    replace hv := q_ob_e hv
    obtain ⟨_, cu12⟩ := hv
    replace h := q_be h
    obtain ⟨v13, hv, h⟩ := h
    refine ⟨⟨some _, rfl⟩, ⟨_, cu12⟩, ?_⟩
    refine rX12_products hv ?_
    cases h
    exact ⟨rfl, hk⟩
  replace h := q_ifn hc11 h
  have eD : ps_tsel 1 169 1 10 #[55, 169, 169, 70, 169, 169, 113, 144, 150, 158] x1 = 170 := by
    refine q_tsd (by decide +kernel) (fun z h1 h2 => ?_)
    have hz : z = 1 ∨ z = 2 ∨ z = 3 ∨ z = 4 ∨ z = 5 ∨ z = 6 ∨ z = 7 ∨ z = 8 ∨ z = 9 ∨ z = 10 := by omega
    rcases hz with rfl | rfl | rfl | rfl | rfl | rfl | rfl | rfl | rfl | rfl
    · exact Or.inl (q_tsx (v := 1) (fun z => hc1 z))
    · exact Or.inr (by decide +kernel)
    · exact Or.inr (by decide +kernel)
    · exact Or.inl (q_tsx (v := 4) (fun z => hc2 z))
    · exact Or.inr (by decide +kernel)
    · exact Or.inr (by decide +kernel)
    · exact Or.inl (q_tsx (v := 7) (fun z => hc7 z))
    · exact Or.inl (q_tsx (v := 8) (fun z => hc9 z))
    · exact Or.inl (q_tsx (v := 9) (fun z => hc10 z))
    · exact Or.inl (q_tsx (v := 10) (fun z => hc11 z))
  refine ps_at_eq eD ?_
  refine sX12_sampled_170 ?_
  replace h := q_be h
  obtain ⟨u14, hv, h⟩ := h
  replace hv := q_ob_e hv
  obtain ⟨_, cu14⟩ := hv
  replace h := q_be h
  obtain ⟨v15, hv, h⟩ := h
  refine ⟨⟨some _, rfl⟩, ⟨_, cu14⟩, ?_⟩
  refine rX12_near hv ?_
  refine rX12_bright rfl ?_
  refine ⟨by decide, ?_⟩
  refine rX12_clip rfl ?_
  cases h
  exact ⟨rfl, hk⟩
noncomputable def bX12_filtered_279 (g : ps_G) (x0 : Nat) (x1 : Int32) (x2 : Int32) (x3 : Int32) (x4 : Int32) (x5 : Int32) (x8 : Int32) (x9 : Int32) (x7 : Int32) (x10 : Int32) : Option ((Int32 × Int32) ⊕ (Int32)) := if (3 : Int32) ≤ x10 then (some (.inr x7)) else (Option.bind (q_ob 12 g x0) fun u41 => Option.bind (fX12_sampled g x0 x1 x2 (fX12_part x5 x10) (fX12_part x8 x10) x9 x3 x4 x10) fun v42 => some (.inl (x7 ||| (q_shl v42 ((16 : Int32) - ((8 : Int32) * x10))), x10 + (1 : Int32))))
theorem pbX12_filtered_279 {d : Nat} {Q : ps_Rs → ps_G → Prop} {g : ps_G} {x0 : Nat} {x1 : Int32} {x2 : Int32} {x3 : Int32} {x4 : Int32} {x5 : Int32} {x8 : Int32} {x9 : Int32} {x7 : Int32} {x10 : Int32} {x : (Int32 × Int32) ⊕ (Int32)} (h : bX12_filtered_279 g x0 x1 x2 x3 x4 x5 x8 x9 x7 x10 = some x) (hh : ∀ s' : Int32 × Int32, x = .inl s' → ps_At mX12_filtered (d + 4) 279 [(0, .ref x0), (1, .int x1), (2, .int x2), (3, .int x3), (4, .int x4), (5, .int x5), (7, .int s'.1), (8, .int x8), (9, .int x9), (10, .int s'.2)] [] g Q) (he : ∀ r' : Int32, x = .inr r' → ps_At mX12_filtered (d + 4) 332 [(7, .int r')] [] g Q) : ps_At mX12_filtered (d + 4) 279 [(0, .ref x0), (1, .int x1), (2, .int x2), (3, .int x3), (4, .int x4), (5, .int x5), (7, .int x7), (8, .int x8), (9, .int x9), (10, .int x10)] [] g Q := by
  unfold bX12_filtered_279 at h
  refine sX12_filtered_279 ?_
  refine And.intro (fun hc39 => ?_) (fun hc39 => ?_)
  · replace h := q_ifp (hc39) h
    exact ps_weak (he x7 (Option.some.inj h).symm) ⟨rfl, trivial⟩
  · replace h := q_ifn (hc39) h
    refine ⟨⟨some _, rfl⟩, ?_⟩
    refine rX12_part rfl ?_
    refine rX12_part rfl ?_
    replace h := q_be h
    obtain ⟨u41, hv, h⟩ := h
    replace hv := q_ob_e hv
    obtain ⟨_, cu41⟩ := hv
    replace h := q_be h
    obtain ⟨v42, hv, h⟩ := h
    refine ⟨⟨_, cu41⟩, ?_⟩
    refine rX12_sampled hv ?_
    refine ⟨by decide, by decide, ?_⟩
    exact ps_weak (hh (x7 ||| (q_shl v42 ((16 : Int32) - ((8 : Int32) * x10))), x10 + (1 : Int32)) (Option.some.inj h).symm) ⟨rfl, rfl, rfl, rfl, rfl, rfl, rfl, rfl, rfl, rfl, trivial⟩
noncomputable def jX12_filtered_274 (g : ps_G) (x0 : Nat) (x1 : Int32) (x2 : Int32) (x3 : Int32) (x4 : Int32) (x5 : Int32) (x7 : Int32) (x8 : Int32) (k0 : Int32) : Option (Int32 × ps_G) := Option.bind (q_lp (fun s => bX12_filtered_279 g x0 x1 x2 x3 x4 x5 x8 k0 s.1 s.2) (x7, (0 : Int32))) fun s45 => some (s45, g)
theorem pjX12_filtered_274 {d : Nat} {Q : ps_Rs → ps_G → Prop} {g : ps_G} {x0 : Nat} {x1 : Int32} {x2 : Int32} {x3 : Int32} {x4 : Int32} {x5 : Int32} {x7 : Int32} {x8 : Int32} {k0 : Int32} {r : Int32 × ps_G} (h : jX12_filtered_274 g x0 x1 x2 x3 x4 x5 x7 x8 k0 = some r) (hk : Q (.inl (some (.int r.1))) r.2) : ps_At mX12_filtered (d + 4) 274 [(0, .ref x0), (1, .int x1), (2, .int x2), (3, .int x3), (4, .int x4), (5, .int x5), (7, .int x7), (8, .int x8)] [.int k0] g Q := by
  unfold jX12_filtered_274 at h
  refine sX12_filtered_274 ?_
  refine ⟨by decide, by decide, ?_⟩
  replace h := q_be h
  obtain ⟨s45, hl, h⟩ := h
  refine ps_weak (q_lp_ok hl (fun s => ps_At mX12_filtered (d + 4) 279 [(0, .ref x0), (1, .int x1), (2, .int x2), (3, .int x3), (4, .int x4), (5, .int x5), (7, .int s.1), (8, .int x8), (9, .int k0), (10, .int s.2)] [] g Q) (fun r => ps_At mX12_filtered (d + 4) 332 [(7, .int r)] [] g Q) (fun s x hb hh he => pbX12_filtered_279 hb hh he) ?_) ⟨rfl, rfl, rfl, rfl, rfl, rfl, rfl, rfl, rfl, rfl, trivial⟩
  refine (?_ : ps_At mX12_filtered (d + 4) 332 [(7, .int s45)] [] g Q)
  refine sX12_filtered_332 ?_
  cases h
  exact ⟨rfl, hk⟩
noncomputable def jX12_filtered_254 (g : ps_G) (x0 : Nat) (x1 : Int32) (x2 : Int32) (x3 : Int32) (x4 : Int32) (x5 : Int32) (x7 : Int32) (k0 : Int32) : Option (Int32 × ps_G) := if ¬ x1 = (9 : Int32) then (jX12_filtered_274 g x0 x1 x2 x3 x4 x5 x7 k0 (0 : Int32)) else (Option.bind (q_ob 12 g x0) fun u46 => Option.bind (fX12_grain g x0 x3 x4 x2) fun v47 => jX12_filtered_274 g x0 x1 x2 x3 x4 x5 x7 k0 v47)
theorem pjX12_filtered_254 {d : Nat} {Q : ps_Rs → ps_G → Prop} {g : ps_G} {x0 : Nat} {x1 : Int32} {x2 : Int32} {x3 : Int32} {x4 : Int32} {x5 : Int32} {x7 : Int32} {k0 : Int32} {r : Int32 × ps_G} (h : jX12_filtered_254 g x0 x1 x2 x3 x4 x5 x7 k0 = some r) (hk : Q (.inl (some (.int r.1))) r.2) : ps_At mX12_filtered (d + 4) 254 [(0, .ref x0), (1, .int x1), (2, .int x2), (3, .int x3), (4, .int x4), (5, .int x5), (7, .int x7)] [.int k0] g Q := by
  unfold jX12_filtered_254 at h
  refine sX12_filtered_254 ?_
  refine ⟨by decide, ?_⟩
  refine And.intro (fun hc37 => ?_) (fun hc37 => ?_)
  · replace h := q_ifp (hc37) h
    refine sX12_filtered_273 ?_
    exact ps_weak (pjX12_filtered_274 h hk) ⟨rfl, rfl, rfl, rfl, rfl, rfl, rfl, rfl, trivial⟩
  · replace h := q_ifn (hc37) h
    replace h := q_be h
    obtain ⟨u46, hv, h⟩ := h
    replace hv := q_ob_e hv
    obtain ⟨_, cu46⟩ := hv
    replace h := q_be h
    obtain ⟨v47, hv, h⟩ := h
    refine ⟨⟨some _, rfl⟩, ⟨_, cu46⟩, ?_⟩
    refine rX12_grain hv ?_
    exact ps_weak (pjX12_filtered_274 h hk) ⟨rfl, rfl, rfl, rfl, rfl, rfl, rfl, rfl, trivial⟩
noncomputable def fX12_filtered (g : ps_G) (x0 : Nat) (x1 : Int32) (x2 : Int32) (x3 : Int32) (x4 : Int32) : Option (Int32 × ps_G) := Option.bind (q_ob 12 g x0) fun u1 => Option.bind (fX12_near g x0 x3 x4) fun v2 => if x1 = 0 then (Option.bind (q_ob 12 g x0) fun u4 => Option.bind (fX12_soft g x0 x2 x3 x4) fun v5 => some (v5, g)) else (if x1 = 2 then (Option.bind (q_ob 12 g x0) fun u7 => q_b2 (fX12_middle g x0 x3 x4 (0 : Int32)) fun v8 g9 => Option.bind (q_ob 12 g9 x0) fun u10 => q_b2 (fX12_middle g9 x0 x3 x4 (1 : Int32)) fun v11 g12 => Option.bind (q_ob 12 g12 x0) fun u13 => q_b2 (fX12_middle g12 x0 x3 x4 (2 : Int32)) fun v14 g15 => Option.bind (q_ob 12 g15 x0) fun u16 => q_b2 (fX12_middle g15 x0 x3 x4 (3 : Int32)) fun v17 g18 => some (fX12_colour v8 v11 v14 v17, g18)) else (if x1 = 3 then (Option.bind (q_ob 12 g x0) fun u20 => Option.bind (fX12_edges g x0 x3 x4) fun v21 => some (fX12_colour v21 v21 v21 (fX12_alpha v2), g)) else (if x1 = 5 then (Option.bind (q_div x3 x2) fun v23 => Option.bind (q_div x4 x2) fun v24 => Option.bind (q_ob 12 g x0) fun u25 => Option.bind (fX12_near g x0 (v23 * x2) (v24 * x2)) fun v26 => some (v26, g)) else (if x1 = 6 then (some ((if (fX12_bright v2) < x2 then fX12_colour (0 : Int32) (0 : Int32) (0 : Int32) (fX12_alpha v2) else fX12_colour (255 : Int32) (255 : Int32) (255 : Int32) (fX12_alpha v2)), g)) else (if x1 = 11 then (some (fX12_colour (fX12_bright v2) (fX12_bright v2) (fX12_bright v2) (fX12_alpha v2), g)) else (if x1 = 12 then (Option.bind (q_ob 12 g x0) fun u33 => Option.bind (fX12_hue g x0 v2 x2) fun v34 => some (v34, g)) else (if ¬ x1 = (1 : Int32) then (jX12_filtered_254 g x0 x1 x2 x3 x4 v2 (q_shl (fX12_alpha v2) (24 : Int32)) (0 : Int32)) else (Option.bind (q_ob 12 g x0) fun u50 => Option.bind (fX12_soft g x0 (1 : Int32) x3 x4) fun v51 => jX12_filtered_254 g x0 x1 x2 x3 x4 v2 (q_shl (fX12_alpha v2) (24 : Int32)) v51))))))))
theorem rX12_filtered {d : Nat} {Q : ps_Rs → ps_G → Prop} {g : ps_G} {x0 : Nat} {x1 : Int32} {x2 : Int32} {x3 : Int32} {x4 : Int32} {r : Int32 × ps_G} (h : fX12_filtered g x0 x1 x2 x3 x4 = some r) (hk : Q (.inl (some (.int r.1))) r.2) : ps_Ok mX12_filtered (d + 4) [.ref x0, .int x1, .int x2, .int x3, .int x4] g Q := by
  unfold fX12_filtered at h
  refine sX12_filtered_0 ?_
  replace h := q_be h
  obtain ⟨u1, hv, h⟩ := h
  replace hv := q_ob_e hv
  obtain ⟨_, cu1⟩ := hv
  replace h := q_be h
  obtain ⟨v2, hv, h⟩ := h
  refine ⟨⟨some _, rfl⟩, ⟨_, cu1⟩, ?_⟩
  refine rX12_near hv ?_
  refine ⟨by decide, ?_⟩
  refine rX12_alpha rfl ?_
  refine ⟨by decide, ?_⟩
  refine sX12_filtered_17 ?_
  by_cases hc3 : x1 = 0
  · replace h := q_ifp hc3 h
    have eT : ps_tsel 17 213 0 12 #[67, 213, 76, 112, 213, 133, 149, 213, 213, 213, 213, 184, 205] x1 = 84 := by
      rw [hc3]; decide +kernel
    refine ps_at_eq eT ?_
    refine sX12_filtered_84 ?_
    replace h := q_be h
    obtain ⟨u4, hv, h⟩ := h
    replace hv := q_ob_e hv
    obtain ⟨_, cu4⟩ := hv
    replace h := q_be h
    obtain ⟨v5, hv, h⟩ := h
    refine ⟨⟨some _, rfl⟩, ⟨_, cu4⟩, ?_⟩
    refine rX12_soft hv ?_
    cases h
    exact ⟨rfl, hk⟩
  replace h := q_ifn hc3 h
  by_cases hc6 : x1 = 2
  · replace h := q_ifp hc6 h
    have eT : ps_tsel 17 213 0 12 #[67, 213, 76, 112, 213, 133, 149, 213, 213, 213, 213, 184, 205] x1 = 93 := by
      rw [hc6]; decide +kernel
    refine ps_at_eq eT ?_
    refine sX12_filtered_93 ?_
    replace h := q_be h
    obtain ⟨u7, hv, h⟩ := h
    replace hv := q_ob_e hv
    obtain ⟨_, cu7⟩ := hv
    replace h := q_b2_e h
    obtain ⟨v8, g9, hv, h⟩ := h
    refine ⟨⟨some _, rfl⟩, ⟨_, cu7⟩, ?_⟩
    refine rX12_middle hv ?_
    replace h := q_be h
    obtain ⟨u10, hv, h⟩ := h
    replace hv := q_ob_e hv
    obtain ⟨_, cu10⟩ := hv
    replace h := q_b2_e h
    obtain ⟨v11, g12, hv, h⟩ := h
    refine ⟨⟨some _, rfl⟩, ⟨_, cu10⟩, ?_⟩
    refine rX12_middle hv ?_
    replace h := q_be h
    obtain ⟨u13, hv, h⟩ := h
    replace hv := q_ob_e hv
    obtain ⟨_, cu13⟩ := hv
    replace h := q_b2_e h
    obtain ⟨v14, g15, hv, h⟩ := h
    refine ⟨⟨some _, rfl⟩, ⟨_, cu13⟩, ?_⟩
    refine rX12_middle hv ?_
    replace h := q_be h
    obtain ⟨u16, hv, h⟩ := h
    replace hv := q_ob_e hv
    obtain ⟨_, cu16⟩ := hv
    replace h := q_b2_e h
    obtain ⟨v17, g18, hv, h⟩ := h
    refine ⟨⟨some _, rfl⟩, ⟨_, cu16⟩, ?_⟩
    refine rX12_middle hv ?_
    refine rX12_colour rfl ?_
    cases h
    exact ⟨rfl, hk⟩
  replace h := q_ifn hc6 h
  by_cases hc19 : x1 = 3
  · replace h := q_ifp hc19 h
    have eT : ps_tsel 17 213 0 12 #[67, 213, 76, 112, 213, 133, 149, 213, 213, 213, 213, 184, 205] x1 = 129 := by
      rw [hc19]; decide +kernel
    refine ps_at_eq eT ?_
    refine sX12_filtered_129 ?_
    replace h := q_be h
    obtain ⟨u20, hv, h⟩ := h
    replace hv := q_ob_e hv
    obtain ⟨_, cu20⟩ := hv
    replace h := q_be h
    obtain ⟨v21, hv, h⟩ := h
    refine ⟨⟨some _, rfl⟩, ⟨_, cu20⟩, ?_⟩
    refine rX12_edges hv ?_
    refine ⟨by decide, ?_⟩
    refine rX12_colour rfl ?_
    cases h
    exact ⟨rfl, hk⟩
  replace h := q_ifn hc19 h
  by_cases hc22 : x1 = 5
  · replace h := q_ifp hc22 h
    have eT : ps_tsel 17 213 0 12 #[67, 213, 76, 112, 213, 133, 149, 213, 213, 213, 213, 184, 205] x1 = 150 := by
      rw [hc22]; decide +kernel
    refine ps_at_eq eT ?_
    refine sX12_filtered_150 ?_
    replace h := q_be h
    obtain ⟨v23, hv, h⟩ := h
    replace hv := q_div_e hv
    obtain ⟨zv23, yv23⟩ := hv
    replace h := q_be h
    obtain ⟨v24, hv, h⟩ := h
    replace hv := q_div_e hv
    obtain ⟨zv24, yv24⟩ := hv
    replace h := q_be h
    obtain ⟨u25, hv, h⟩ := h
    replace hv := q_ob_e hv
    obtain ⟨_, cu25⟩ := hv
    replace h := q_be h
    obtain ⟨v26, hv, h⟩ := h
    refine ⟨⟨some _, rfl⟩, zv23, _, yv23, zv24, _, yv24, ⟨_, cu25⟩, ?_⟩
    refine rX12_near hv ?_
    cases h
    exact ⟨rfl, hk⟩
  replace h := q_ifn hc22 h
  by_cases hc27 : x1 = 6
  · replace h := q_ifp hc27 h
    have eT : ps_tsel 17 213 0 12 #[67, 213, 76, 112, 213, 133, 149, 213, 213, 213, 213, 184, 205] x1 = 166 := by
      rw [hc27]; decide +kernel
    refine ps_at_eq eT ?_
    refine sX12_filtered_166 ?_
    refine rX12_bright rfl ?_
    have kJ30 : ∀ w29 : Int32, w29 = (if (fX12_bright v2) < x2 then fX12_colour (0 : Int32) (0 : Int32) (0 : Int32) (fX12_alpha v2) else fX12_colour (255 : Int32) (255 : Int32) (255 : Int32) (fX12_alpha v2)) → ps_At mX12_filtered (d + 4) 200 [] [.int w29] g Q := by
      rintro _ rfl
      refine sX12_filtered_200 ?_
      cases h
      exact ⟨rfl, hk⟩
    refine And.intro (fun hc28 => ?_) (fun hc28 => ?_)
    · refine sX12_filtered_192 ?_
      refine rX12_colour rfl ?_
      exact ps_weak (kJ30 _ (if_pos (hc28)).symm) trivial
    · refine rX12_colour rfl ?_
      exact ps_weak (kJ30 _ (if_neg (hc28)).symm) trivial
  replace h := q_ifn hc27 h
  by_cases hc31 : x1 = 11
  · replace h := q_ifp hc31 h
    have eT : ps_tsel 17 213 0 12 #[67, 213, 76, 112, 213, 133, 149, 213, 213, 213, 213, 184, 205] x1 = 201 := by
      rw [hc31]; decide +kernel
    refine ps_at_eq eT ?_
    refine sX12_filtered_201 ?_
    refine rX12_bright rfl ?_
    refine rX12_bright rfl ?_
    refine rX12_bright rfl ?_
    refine rX12_colour rfl ?_
    cases h
    exact ⟨rfl, hk⟩
  replace h := q_ifn hc31 h
  by_cases hc32 : x1 = 12
  · replace h := q_ifp hc32 h
    have eT : ps_tsel 17 213 0 12 #[67, 213, 76, 112, 213, 133, 149, 213, 213, 213, 213, 184, 205] x1 = 222 := by
      rw [hc32]; decide +kernel
    refine ps_at_eq eT ?_
    refine sX12_filtered_222 ?_
    replace h := q_be h
    obtain ⟨u33, hv, h⟩ := h
    replace hv := q_ob_e hv
    obtain ⟨_, cu33⟩ := hv
    replace h := q_be h
    obtain ⟨v34, hv, h⟩ := h
    refine ⟨⟨some _, rfl⟩, ⟨_, cu33⟩, ?_⟩
    refine rX12_hue hv ?_
    cases h
    exact ⟨rfl, hk⟩
  replace h := q_ifn hc32 h
  have eD : ps_tsel 17 213 0 12 #[67, 213, 76, 112, 213, 133, 149, 213, 213, 213, 213, 184, 205] x1 = 230 := by
    refine q_tsd (by decide +kernel) (fun z h1 h2 => ?_)
    have hz : z = 0 ∨ z = 1 ∨ z = 2 ∨ z = 3 ∨ z = 4 ∨ z = 5 ∨ z = 6 ∨ z = 7 ∨ z = 8 ∨ z = 9 ∨ z = 10 ∨ z = 11 ∨ z = 12 := by omega
    rcases hz with rfl | rfl | rfl | rfl | rfl | rfl | rfl | rfl | rfl | rfl | rfl | rfl | rfl
    · exact Or.inl (q_tsx (v := 0) (fun z => hc3 z))
    · exact Or.inr (by decide +kernel)
    · exact Or.inl (q_tsx (v := 2) (fun z => hc6 z))
    · exact Or.inl (q_tsx (v := 3) (fun z => hc19 z))
    · exact Or.inr (by decide +kernel)
    · exact Or.inl (q_tsx (v := 5) (fun z => hc22 z))
    · exact Or.inl (q_tsx (v := 6) (fun z => hc27 z))
    · exact Or.inr (by decide +kernel)
    · exact Or.inr (by decide +kernel)
    · exact Or.inr (by decide +kernel)
    · exact Or.inr (by decide +kernel)
    · exact Or.inl (q_tsx (v := 11) (fun z => hc31 z))
    · exact Or.inl (q_tsx (v := 12) (fun z => hc32 z))
  refine ps_at_eq eD ?_
  refine sX12_filtered_230 ?_
  refine ⟨by decide, ?_⟩
  refine And.intro (fun hc35 => ?_) (fun hc35 => ?_)
  · replace h := q_ifp (hc35) h
    refine sX12_filtered_253 ?_
    exact ps_weak (pjX12_filtered_254 h hk) ⟨rfl, rfl, rfl, rfl, rfl, rfl, rfl, trivial⟩
  · replace h := q_ifn (hc35) h
    replace h := q_be h
    obtain ⟨u50, hv, h⟩ := h
    replace hv := q_ob_e hv
    obtain ⟨_, cu50⟩ := hv
    replace h := q_be h
    obtain ⟨v51, hv, h⟩ := h
    refine ⟨⟨some _, rfl⟩, ⟨_, cu50⟩, ?_⟩
    refine rX12_soft hv ?_
    exact ps_weak (pjX12_filtered_254 h hk) ⟨rfl, rfl, rfl, rfl, rfl, rfl, rfl, trivial⟩
noncomputable def jX12_maskOf_27 (g : ps_G) (k0 : Int32) : Option (Int32) := some k0
theorem pjX12_maskOf_27 {d : Nat} {Q : ps_Rs → ps_G → Prop} {g : ps_G} {k0 : Int32} {r : Int32} (h : jX12_maskOf_27 g k0 = some r) (hk : Q (.inl (some (.int r))) g) : ps_At mX12_maskOf (d + 1) 27 [] [.int k0] g Q := by
  unfold jX12_maskOf_27 at h
  refine sX12_maskOf_27 ?_
  cases h
  exact ⟨rfl, hk⟩
noncomputable def fX12_maskOf (g : ps_G) (x0 : Nat) (x1 : Int32) (x2 : Int32) : Option (Int32) := Option.bind (q_ob 12 g x0) fun u1 => Option.bind (fX12_get g x0 x1 (10 : Int32)) fun v2 => if ¬ v2 = (1 : Int32) then (jX12_maskOf_27 g (255 : Int32)) else (Option.bind (q_ob 12 g x0) fun u5 => Option.bind (fX12_get g x0 x1 ((593 : Int32) + x2)) fun v6 => jX12_maskOf_27 g v6)
theorem rX12_maskOf {d : Nat} {Q : ps_Rs → ps_G → Prop} {g : ps_G} {x0 : Nat} {x1 : Int32} {x2 : Int32} {r : Int32} (h : fX12_maskOf g x0 x1 x2 = some r) (hk : Q (.inl (some (.int r))) g) : ps_Ok mX12_maskOf (d + 1) [.ref x0, .int x1, .int x2] g Q := by
  unfold fX12_maskOf at h
  refine sX12_maskOf_0 ?_
  replace h := q_be h
  obtain ⟨u1, hv, h⟩ := h
  replace hv := q_ob_e hv
  obtain ⟨_, cu1⟩ := hv
  replace h := q_be h
  obtain ⟨v2, hv, h⟩ := h
  refine ⟨⟨some _, rfl⟩, ⟨_, cu1⟩, ?_⟩
  refine rX12_get hv ?_
  refine And.intro (fun hc3 => ?_) (fun hc3 => ?_)
  · replace h := q_ifp (hc3) h
    refine sX12_maskOf_24 ?_
    exact ps_weak (pjX12_maskOf_27 h hk) trivial
  · replace h := q_ifn (hc3) h
    replace h := q_be h
    obtain ⟨u5, hv, h⟩ := h
    replace hv := q_ob_e hv
    obtain ⟨_, cu5⟩ := hv
    replace h := q_be h
    obtain ⟨v6, hv, h⟩ := h
    refine ⟨⟨some _, rfl⟩, ⟨_, cu5⟩, ?_⟩
    refine rX12_get hv ?_
    exact ps_weak (pjX12_maskOf_27 h hk) trivial
def fX12_mul (x0 : Int32) (x1 : Int32) : Int32 := ((x0 * x1) + (127 : Int32)) / (255 : Int32)
theorem rX12_mul {d : Nat} {Q : ps_Rs → ps_G → Prop} {g : ps_G} {x0 : Int32} {x1 : Int32} {r : Int32} (h : fX12_mul x0 x1 = r) (hk : Q (.inl (some (.int r))) g) : ps_Ok mX12_mul d [.int x0, .int x1] g Q := by
  unfold fX12_mul at h
  refine sX12_mul_0 ?_
  subst h
  exact ⟨by decide, _, rfl, rfl, hk⟩
def fX12_mix (x0 : Int32) (x1 : Int32) (x2 : Int32) : Int32 := (((x0 * ((255 : Int32) - x2)) + (x1 * x2)) + (127 : Int32)) / (255 : Int32)
theorem rX12_mix {d : Nat} {Q : ps_Rs → ps_G → Prop} {g : ps_G} {x0 : Int32} {x1 : Int32} {x2 : Int32} {r : Int32} (h : fX12_mix x0 x1 x2 = r) (hk : Q (.inl (some (.int r))) g) : ps_Ok mX12_mix d [.int x0, .int x1, .int x2] g Q := by
  unfold fX12_mix at h
  refine sX12_mix_0 ?_
  subst h
  exact ⟨by decide, _, rfl, rfl, hk⟩
noncomputable def bX12_mixed_5 (g : ps_G) (x0 : Int32) (x1 : Int32) (x2 : Int32) (x3 : Int32) (x4 : Int32) : Option ((Int32 × Int32) ⊕ (Int32)) := if (4 : Int32) ≤ x4 then (some (.inr x3)) else (some (.inl (x3 ||| (q_shl (fX12_mix (fX12_part x0 x4) (fX12_part x1 x4) x2) (if ¬ x4 = (3 : Int32) then (16 : Int32) - ((8 : Int32) * x4) else (24 : Int32))), x4 + (1 : Int32))))
theorem pbX12_mixed_5 {d : Nat} {Q : ps_Rs → ps_G → Prop} {g : ps_G} {x0 : Int32} {x1 : Int32} {x2 : Int32} {x3 : Int32} {x4 : Int32} {x : (Int32 × Int32) ⊕ (Int32)} (h : bX12_mixed_5 g x0 x1 x2 x3 x4 = some x) (hh : ∀ s' : Int32 × Int32, x = .inl s' → ps_At mX12_mixed (d + 1) 5 [(0, .int x0), (1, .int x1), (2, .int x2), (3, .int s'.1), (4, .int s'.2)] [] g Q) (he : ∀ r' : Int32, x = .inr r' → ps_At mX12_mixed (d + 1) 56 [(3, .int r')] [] g Q) : ps_At mX12_mixed (d + 1) 5 [(0, .int x0), (1, .int x1), (2, .int x2), (3, .int x3), (4, .int x4)] [] g Q := by
  unfold bX12_mixed_5 at h
  refine sX12_mixed_5 ?_
  refine And.intro (fun hc1 => ?_) (fun hc1 => ?_)
  · replace h := q_ifp (hc1) h
    exact ps_weak (he x3 (Option.some.inj h).symm) ⟨rfl, trivial⟩
  · replace h := q_ifn (hc1) h
    refine rX12_part rfl ?_
    refine rX12_part rfl ?_
    refine rX12_mix rfl ?_
    have kJ7 : ∀ w6 : Int32, w6 = (if ¬ x4 = (3 : Int32) then (16 : Int32) - ((8 : Int32) * x4) else (24 : Int32)) → ps_At mX12_mixed (d + 1) 47 [(0, .int x0), (1, .int x1), (2, .int x2), (4, .int x4)] [.int w6, .int (fX12_mix (fX12_part x0 x4) (fX12_part x1 x4) x2), .int x3] g Q := by
      rintro _ rfl
      refine sX12_mixed_47 ?_
      refine ⟨by decide, by decide, ?_⟩
      exact ps_weak (hh (x3 ||| (q_shl (fX12_mix (fX12_part x0 x4) (fX12_part x1 x4) x2) (if ¬ x4 = (3 : Int32) then (16 : Int32) - ((8 : Int32) * x4) else (24 : Int32))), x4 + (1 : Int32)) (Option.some.inj h).symm) ⟨rfl, rfl, rfl, rfl, rfl, trivial⟩
    refine And.intro (fun hc5 => ?_) (fun hc5 => ?_)
    · refine sX12_mixed_39 ?_
      exact ps_weak (kJ7 _ (if_pos (hc5)).symm) ⟨rfl, rfl, rfl, rfl, trivial⟩
    · exact ps_weak (kJ7 _ (if_neg (hc5)).symm) ⟨rfl, rfl, rfl, rfl, trivial⟩
noncomputable def fX12_mixed (g : ps_G) (x0 : Int32) (x1 : Int32) (x2 : Int32) : Option (Int32) := Option.bind (q_lp (fun s => bX12_mixed_5 g x0 x1 x2 s.1 s.2) ((0 : Int32), (0 : Int32))) fun s10 => some s10
theorem rX12_mixed {d : Nat} {Q : ps_Rs → ps_G → Prop} {g : ps_G} {x0 : Int32} {x1 : Int32} {x2 : Int32} {r : Int32} (h : fX12_mixed g x0 x1 x2 = some r) (hk : Q (.inl (some (.int r))) g) : ps_Ok mX12_mixed (d + 1) [.int x0, .int x1, .int x2] g Q := by
  unfold fX12_mixed at h
  refine sX12_mixed_0 ?_
  refine ⟨by decide, by decide, ?_⟩
  replace h := q_be h
  obtain ⟨s10, hl, h⟩ := h
  refine ps_weak (q_lp_ok hl (fun s => ps_At mX12_mixed (d + 1) 5 [(0, .int x0), (1, .int x1), (2, .int x2), (3, .int s.1), (4, .int s.2)] [] g Q) (fun r => ps_At mX12_mixed (d + 1) 56 [(3, .int r)] [] g Q) (fun s x hb hh he => pbX12_mixed_5 hb hh he) ?_) ⟨rfl, rfl, rfl, rfl, rfl, trivial⟩
  refine (?_ : ps_At mX12_mixed (d + 1) 56 [(3, .int s10)] [] g Q)
  refine sX12_mixed_56 ?_
  cases h
  exact ⟨rfl, hk⟩
noncomputable def bX12_lay_3 (x0 : Nat) (x1 : Int32) (x2 : Int32) (x3 : Int32) (x4 : Int32) (x5 : Int32) (x6 : Int32) (g : ps_G) : Option ((Int32 × ps_G) ⊕ (ps_G)) := if x3 ≤ x6 then (some (.inr g)) else (Option.bind (q_fR 12 18 g x0) fun v3 => Option.bind (v3) fun a4 => Option.bind (q_fR 12 16 g x0) fun v5 => Option.bind (v5) fun a6 => Option.bind (q_aI g a6 (x2 + x6)) fun v7 => Option.bind (q_wI g a4 x6 v7) fun g8 => some (.inl (x6 + (1 : Int32), g8)))
theorem pbX12_lay_3 {d : Nat} {Q : ps_Rs → ps_G → Prop}  {x0 : Nat} {x1 : Int32} {x2 : Int32} {x3 : Int32} {x4 : Int32} {x5 : Int32} {x6 : Int32} {g : ps_G} {x : (Int32 × ps_G) ⊕ (ps_G)} (h : bX12_lay_3 x0 x1 x2 x3 x4 x5 x6 g = some x) (hh : ∀ s' : Int32 × ps_G, x = .inl s' → ps_At mX12_lay (d + 5) 3 [(0, .ref x0), (1, .int x1), (2, .int x2), (3, .int x3), (4, .int x4), (5, .int x5), (6, .int s'.1)] [] s'.2 Q) (he : ∀ r' : ps_G, x = .inr r' → ps_At mX12_lay (d + 5) 31 [(0, .ref x0), (1, .int x1), (2, .int x2), (3, .int x3), (4, .int x4), (5, .int x5)] [] r' Q) : ps_At mX12_lay (d + 5) 3 [(0, .ref x0), (1, .int x1), (2, .int x2), (3, .int x3), (4, .int x4), (5, .int x5), (6, .int x6)] [] g Q := by
  unfold bX12_lay_3 at h
  refine sX12_lay_3 ?_
  refine And.intro (fun hc1 => ?_) (fun hc1 => ?_)
  · replace h := q_ifp (hc1) h
    exact ps_weak (he g (Option.some.inj h).symm) ⟨rfl, rfl, rfl, rfl, rfl, rfl, trivial⟩
  · replace h := q_ifn (hc1) h
    replace h := q_be h
    obtain ⟨v3, hv, h⟩ := h
    replace hv := q_fR_e hv
    obtain ⟨_, cv3, dv3⟩ := hv
    replace h := q_be h
    obtain ⟨a4, ea4, h⟩ := h
    subst ea4
    replace h := q_be h
    obtain ⟨v5, hv, h⟩ := h
    replace hv := q_fR_e hv
    obtain ⟨_, cv5, dv5⟩ := hv
    replace h := q_be h
    obtain ⟨a6, ea6, h⟩ := h
    subst ea6
    replace h := q_be h
    obtain ⟨v7, hv, h⟩ := h
    replace hv := q_aI_e hv
    obtain ⟨_, _, cv7, iv7, yv7⟩ := hv
    replace h := q_be h
    obtain ⟨g8, hv, h⟩ := h
    replace hv := q_wI_e hv
    obtain ⟨_, _, cg8, pg8, ig8, yg8⟩ := hv
    refine ⟨⟨some _, rfl⟩, _, _, cv3, dv3, ⟨some _, rfl⟩, _, _, cv5, dv5, _, _, cv7, iv7, _, yv7, _, _, cg8, pg8, ig8, _, yg8, by decide, ?_⟩
    exact ps_weak (hh (x6 + (1 : Int32), g8) (Option.some.inj h).symm) ⟨rfl, rfl, rfl, rfl, rfl, rfl, rfl, trivial⟩
noncomputable def jX12_lay_134_34 (g : ps_G) (x0 : Nat) (x1 : Int32) (x2 : Int32) (x3 : Int32) (x4 : Int32) (x5 : Int32) (x6 : Int32) (x7 : Int32) (k0 : Int32) : Option ((Int32 × ps_G) ⊕ (ps_G)) := Option.bind (q_fR 12 16 g x0) fun v32 => Option.bind (v32) fun a33 => Option.bind (q_fR 12 18 g x0) fun v34 => Option.bind (v34) fun a35 => Option.bind (q_aI g a35 x6) fun v36 => Option.bind (q_ob 12 g x0) fun u37 => Option.bind (fX12_get g x0 x1 (4 : Int32)) fun v38 => Option.bind (q_ob 12 g x0) fun u39 => Option.bind (fX12_maskOf g x0 x1 x6) fun v40 => Option.bind (fX12_mixed g v36 x7 (fX12_mul (fX12_mul v38 v40) k0)) fun v41 => Option.bind (q_wI g a33 (x2 + x6) v41) fun g42 => some (.inl (x6 + (1 : Int32), g42))
theorem pjX12_lay_134_34 {d : Nat} {Q : ps_Rs → ps_G → Prop} {g : ps_G} {x0 : Nat} {x1 : Int32} {x2 : Int32} {x3 : Int32} {x4 : Int32} {x5 : Int32} {x6 : Int32} {x7 : Int32} {k0 : Int32} {x : (Int32 × ps_G) ⊕ (ps_G)} (h : jX12_lay_134_34 g x0 x1 x2 x3 x4 x5 x6 x7 k0 = some x) (hh : ∀ s' : Int32 × ps_G, x = .inl s' → ps_At mX12_lay (d + 5) 34 [(0, .ref x0), (1, .int x1), (2, .int x2), (3, .int x3), (4, .int x4), (5, .int x5), (6, .int s'.1)] [] s'.2 Q) (he : ∀ r' : ps_G, x = .inr r' → ps_At mX12_lay (d + 5) 184 [] [] r' Q) : ps_At mX12_lay (d + 5) 134 [(0, .ref x0), (1, .int x1), (2, .int x2), (3, .int x3), (4, .int x4), (5, .int x5), (6, .int x6), (7, .int x7)] [.int k0] g Q := by
  unfold jX12_lay_134_34 at h
  refine sX12_lay_134 ?_
  replace h := q_be h
  obtain ⟨v32, hv, h⟩ := h
  replace hv := q_fR_e hv
  obtain ⟨_, cv32, dv32⟩ := hv
  replace h := q_be h
  obtain ⟨a33, ea33, h⟩ := h
  subst ea33
  replace h := q_be h
  obtain ⟨v34, hv, h⟩ := h
  replace hv := q_fR_e hv
  obtain ⟨_, cv34, dv34⟩ := hv
  replace h := q_be h
  obtain ⟨a35, ea35, h⟩ := h
  subst ea35
  replace h := q_be h
  obtain ⟨v36, hv, h⟩ := h
  replace hv := q_aI_e hv
  obtain ⟨_, _, cv36, iv36, yv36⟩ := hv
  replace h := q_be h
  obtain ⟨u37, hv, h⟩ := h
  replace hv := q_ob_e hv
  obtain ⟨_, cu37⟩ := hv
  replace h := q_be h
  obtain ⟨v38, hv, h⟩ := h
  refine ⟨by decide, ⟨some _, rfl⟩, _, _, cv32, dv32, ⟨some _, rfl⟩, _, _, cv34, dv34, _, _, cv36, iv36, _, yv36, ⟨some _, rfl⟩, ⟨_, cu37⟩, ?_⟩
  refine rX12_get hv ?_
  replace h := q_be h
  obtain ⟨u39, hv, h⟩ := h
  replace hv := q_ob_e hv
  obtain ⟨_, cu39⟩ := hv
  replace h := q_be h
  obtain ⟨v40, hv, h⟩ := h
  refine ⟨⟨some _, rfl⟩, ⟨_, cu39⟩, ?_⟩
  refine rX12_maskOf hv ?_
  refine rX12_mul rfl ?_
  refine rX12_mul rfl ?_
  replace h := q_be h
  obtain ⟨v41, hv, h⟩ := h
  refine rX12_mixed hv ?_
  replace h := q_be h
  obtain ⟨g42, hv, h⟩ := h
  replace hv := q_wI_e hv
  obtain ⟨_, _, cg42, pg42, ig42, yg42⟩ := hv
  refine ⟨_, _, cg42, pg42, ig42, _, yg42, by decide, ?_⟩
  exact ps_weak (hh (x6 + (1 : Int32), g42) (Option.some.inj h).symm) ⟨rfl, rfl, rfl, rfl, rfl, rfl, rfl, trivial⟩
noncomputable def jX12_lay_103_34 (g : ps_G) (x0 : Nat) (x1 : Int32) (x2 : Int32) (x3 : Int32) (x4 : Int32) (x5 : Int32) (x6 : Int32) (k0 : Int32) : Option ((Int32 × ps_G) ⊕ (ps_G)) := if x4 = 0 then (jX12_lay_134_34 g x0 x1 x2 x3 x4 x5 x6 k0 (255 : Int32)) else (if x5 = 0 then (jX12_lay_134_34 g x0 x1 x2 x3 x4 x5 x6 k0 (0 : Int32)) else (Option.bind (q_fR 12 17 g x0) fun v45 => Option.bind (v45) fun a46 => Option.bind (q_aI g a46 (x2 + x6)) fun v47 => jX12_lay_134_34 g x0 x1 x2 x3 x4 x5 x6 k0 v47))
theorem pjX12_lay_103_34 {d : Nat} {Q : ps_Rs → ps_G → Prop} {g : ps_G} {x0 : Nat} {x1 : Int32} {x2 : Int32} {x3 : Int32} {x4 : Int32} {x5 : Int32} {x6 : Int32} {k0 : Int32} {x : (Int32 × ps_G) ⊕ (ps_G)} (h : jX12_lay_103_34 g x0 x1 x2 x3 x4 x5 x6 k0 = some x) (hh : ∀ s' : Int32 × ps_G, x = .inl s' → ps_At mX12_lay (d + 5) 34 [(0, .ref x0), (1, .int x1), (2, .int x2), (3, .int x3), (4, .int x4), (5, .int x5), (6, .int s'.1)] [] s'.2 Q) (he : ∀ r' : ps_G, x = .inr r' → ps_At mX12_lay (d + 5) 184 [] [] r' Q) : ps_At mX12_lay (d + 5) 103 [(0, .ref x0), (1, .int x1), (2, .int x2), (3, .int x3), (4, .int x4), (5, .int x5), (6, .int x6)] [.int k0] g Q := by
  unfold jX12_lay_103_34 at h
  refine sX12_lay_103 ?_
  refine ⟨by decide, ?_⟩
  refine And.intro (fun hc29 => ?_) (fun hc29 => ?_)
  · replace h := q_ifp (hc29) h
    refine sX12_lay_131 ?_
    exact ps_weak (pjX12_lay_134_34 h hh he) ⟨rfl, rfl, rfl, rfl, rfl, rfl, rfl, rfl, trivial⟩
  · replace h := q_ifn (hc29) h
    refine And.intro (fun hc43 => ?_) (fun hc43 => ?_)
    · replace h := q_ifp (hc43) h
      refine sX12_lay_127 ?_
      exact ps_weak (pjX12_lay_134_34 h hh he) ⟨rfl, rfl, rfl, rfl, rfl, rfl, rfl, rfl, trivial⟩
    · replace h := q_ifn (hc43) h
      replace h := q_be h
      obtain ⟨v45, hv, h⟩ := h
      replace hv := q_fR_e hv
      obtain ⟨_, cv45, dv45⟩ := hv
      replace h := q_be h
      obtain ⟨a46, ea46, h⟩ := h
      subst ea46
      replace h := q_be h
      obtain ⟨v47, hv, h⟩ := h
      replace hv := q_aI_e hv
      obtain ⟨_, _, cv47, iv47, yv47⟩ := hv
      refine ⟨⟨some _, rfl⟩, _, _, cv45, dv45, _, _, cv47, iv47, _, yv47, ?_⟩
      exact ps_weak (pjX12_lay_134_34 h hh he) ⟨rfl, rfl, rfl, rfl, rfl, rfl, rfl, rfl, trivial⟩
noncomputable def bX12_lay_34 (x0 : Nat) (x1 : Int32) (x2 : Int32) (x3 : Int32) (x4 : Int32) (x5 : Int32) (x6 : Int32) (g : ps_G) : Option ((Int32 × ps_G) ⊕ (ps_G)) := if x3 ≤ x6 then (some (.inr g)) else (Option.bind (q_ob 12 g x0) fun u14 => Option.bind (fX12_get g x0 x1 (1 : Int32)) fun v15 => if ¬ v15 = (4 : Int32) then (Option.bind (q_ob 12 g x0) fun u18 => Option.bind (fX12_get g x0 x1 (11 : Int32)) fun v19 => Option.bind (q_ob 12 g x0) fun u20 => Option.bind (fX12_get g x0 x1 (12 : Int32)) fun v21 => Option.bind (q_fI 12 13 g x0) fun v22 => Option.bind (q_mod x6 v22) fun v23 => Option.bind (q_fI 12 13 g x0) fun v24 => Option.bind (q_div x6 v24) fun v25 => Option.bind (q_ob 12 g x0) fun u26 => q_b2 (fX12_filtered g x0 v19 v21 v23 v25) fun v27 g28 => jX12_lay_103_34 g28 x0 x1 x2 x3 x4 x5 x6 v27) else (Option.bind (q_fR 12 18 g x0) fun v52 => Option.bind (v52) fun a53 => Option.bind (q_aI g a53 x6) fun v54 => Option.bind (q_ob 12 g x0) fun u55 => Option.bind (fX12_get g x0 x1 (11 : Int32)) fun v56 => Option.bind (q_ob 12 g x0) fun u57 => Option.bind (fX12_curved g x0 v54 v56) fun v58 => jX12_lay_103_34 g x0 x1 x2 x3 x4 x5 x6 v58))
theorem pbX12_lay_34 {d : Nat} {Q : ps_Rs → ps_G → Prop}  {x0 : Nat} {x1 : Int32} {x2 : Int32} {x3 : Int32} {x4 : Int32} {x5 : Int32} {x6 : Int32} {g : ps_G} {x : (Int32 × ps_G) ⊕ (ps_G)} (h : bX12_lay_34 x0 x1 x2 x3 x4 x5 x6 g = some x) (hh : ∀ s' : Int32 × ps_G, x = .inl s' → ps_At mX12_lay (d + 5) 34 [(0, .ref x0), (1, .int x1), (2, .int x2), (3, .int x3), (4, .int x4), (5, .int x5), (6, .int s'.1)] [] s'.2 Q) (he : ∀ r' : ps_G, x = .inr r' → ps_At mX12_lay (d + 5) 184 [] [] r' Q) : ps_At mX12_lay (d + 5) 34 [(0, .ref x0), (1, .int x1), (2, .int x2), (3, .int x3), (4, .int x4), (5, .int x5), (6, .int x6)] [] g Q := by
  unfold bX12_lay_34 at h
  refine sX12_lay_34 ?_
  refine And.intro (fun hc12 => ?_) (fun hc12 => ?_)
  · replace h := q_ifp (hc12) h
    exact ps_weak (he g (Option.some.inj h).symm) trivial
  · replace h := q_ifn (hc12) h
    replace h := q_be h
    obtain ⟨u14, hv, h⟩ := h
    replace hv := q_ob_e hv
    obtain ⟨_, cu14⟩ := hv
    replace h := q_be h
    obtain ⟨v15, hv, h⟩ := h
    refine ⟨⟨some _, rfl⟩, ⟨_, cu14⟩, ?_⟩
    refine rX12_get hv ?_
    refine And.intro (fun hc16 => ?_) (fun hc16 => ?_)
    · replace h := q_ifp (hc16) h
      refine sX12_lay_71 ?_
      replace h := q_be h
      obtain ⟨u18, hv, h⟩ := h
      replace hv := q_ob_e hv
      obtain ⟨_, cu18⟩ := hv
      replace h := q_be h
      obtain ⟨v19, hv, h⟩ := h
      refine ⟨⟨some _, rfl⟩, ⟨some _, rfl⟩, ⟨_, cu18⟩, ?_⟩
      refine rX12_get hv ?_
      replace h := q_be h
      obtain ⟨u20, hv, h⟩ := h
      replace hv := q_ob_e hv
      obtain ⟨_, cu20⟩ := hv
      replace h := q_be h
      obtain ⟨v21, hv, h⟩ := h
      refine ⟨⟨some _, rfl⟩, ⟨_, cu20⟩, ?_⟩
      refine rX12_get hv ?_
      replace h := q_be h
      obtain ⟨v22, hv, h⟩ := h
      replace hv := q_fI_e hv
      obtain ⟨_, cv22, dv22⟩ := hv
      replace h := q_be h
      obtain ⟨v23, hv, h⟩ := h
      replace hv := q_mod_e hv
      obtain ⟨zv23, yv23⟩ := hv
      replace h := q_be h
      obtain ⟨v24, hv, h⟩ := h
      replace hv := q_fI_e hv
      obtain ⟨_, cv24, dv24⟩ := hv
      replace h := q_be h
      obtain ⟨v25, hv, h⟩ := h
      replace hv := q_div_e hv
      obtain ⟨zv25, yv25⟩ := hv
      replace h := q_be h
      obtain ⟨u26, hv, h⟩ := h
      replace hv := q_ob_e hv
      obtain ⟨_, cu26⟩ := hv
      replace h := q_b2_e h
      obtain ⟨v27, g28, hv, h⟩ := h
      refine ⟨⟨some _, rfl⟩, _, _, cv22, dv22, zv23, _, yv23, ⟨some _, rfl⟩, _, _, cv24, dv24, zv25, _, yv25, ⟨_, cu26⟩, ?_⟩
      refine rX12_filtered hv ?_
      exact ps_weak (pjX12_lay_103_34 h hh he) ⟨rfl, rfl, rfl, rfl, rfl, rfl, rfl, trivial⟩
    · replace h := q_ifn (hc16) h
      replace h := q_be h
      obtain ⟨v52, hv, h⟩ := h
      replace hv := q_fR_e hv
      obtain ⟨_, cv52, dv52⟩ := hv
      replace h := q_be h
      obtain ⟨a53, ea53, h⟩ := h
      subst ea53
      replace h := q_be h
      obtain ⟨v54, hv, h⟩ := h
      replace hv := q_aI_e hv
      obtain ⟨_, _, cv54, iv54, yv54⟩ := hv
      replace h := q_be h
      obtain ⟨u55, hv, h⟩ := h
      replace hv := q_ob_e hv
      obtain ⟨_, cu55⟩ := hv
      replace h := q_be h
      obtain ⟨v56, hv, h⟩ := h
      refine ⟨⟨some _, rfl⟩, ⟨some _, rfl⟩, _, _, cv52, dv52, _, _, cv54, iv54, _, yv54, ⟨some _, rfl⟩, ⟨_, cu55⟩, ?_⟩
      refine rX12_get hv ?_
      replace h := q_be h
      obtain ⟨u57, hv, h⟩ := h
      replace hv := q_ob_e hv
      obtain ⟨_, cu57⟩ := hv
      replace h := q_be h
      obtain ⟨v58, hv, h⟩ := h
      refine ⟨⟨_, cu57⟩, ?_⟩
      refine rX12_curved hv ?_
      exact ps_weak (pjX12_lay_103_34 h hh he) ⟨rfl, rfl, rfl, rfl, rfl, rfl, rfl, trivial⟩
noncomputable def fX12_lay (g : ps_G) (x0 : Nat) (x1 : Int32) (x2 : Int32) (x3 : Int32) (x4 : Int32) (x5 : Int32) : Option (ps_G) := Option.bind (q_lp (fun s => bX12_lay_3 x0 x1 x2 x3 x4 x5 s.1 s.2) ((0 : Int32), g)) fun s11 => Option.bind (q_lp (fun s => bX12_lay_34 x0 x1 x2 x3 x4 x5 s.1 s.2) ((0 : Int32), s11)) fun s63 => some s63
theorem rX12_lay {d : Nat} {Q : ps_Rs → ps_G → Prop} {g : ps_G} {x0 : Nat} {x1 : Int32} {x2 : Int32} {x3 : Int32} {x4 : Int32} {x5 : Int32} {r : ps_G} (h : fX12_lay g x0 x1 x2 x3 x4 x5 = some r) (hk : Q (.inl none) r) : ps_Ok mX12_lay (d + 5) [.ref x0, .int x1, .int x2, .int x3, .int x4, .int x5] g Q := by
  unfold fX12_lay at h
  refine sX12_lay_0 ?_
  refine ⟨by decide, ?_⟩
  replace h := q_be h
  obtain ⟨s11, hl, h⟩ := h
  refine ps_weak (q_lp_ok hl (fun s => ps_At mX12_lay (d + 5) 3 [(0, .ref x0), (1, .int x1), (2, .int x2), (3, .int x3), (4, .int x4), (5, .int x5), (6, .int s.1)] [] s.2 Q) (fun r => ps_At mX12_lay (d + 5) 31 [(0, .ref x0), (1, .int x1), (2, .int x2), (3, .int x3), (4, .int x4), (5, .int x5)] [] r Q) (fun s x hb hh he => pbX12_lay_3 hb hh he) ?_) ⟨rfl, rfl, rfl, rfl, rfl, rfl, rfl, trivial⟩
  refine (?_ : ps_At mX12_lay (d + 5) 31 [(0, .ref x0), (1, .int x1), (2, .int x2), (3, .int x3), (4, .int x4), (5, .int x5)] [] s11 Q)
  refine sX12_lay_31 ?_
  refine ⟨by decide, ?_⟩
  replace h := q_be h
  obtain ⟨s63, hl, h⟩ := h
  refine ps_weak (q_lp_ok hl (fun s => ps_At mX12_lay (d + 5) 34 [(0, .ref x0), (1, .int x1), (2, .int x2), (3, .int x3), (4, .int x4), (5, .int x5), (6, .int s.1)] [] s.2 Q) (fun r => ps_At mX12_lay (d + 5) 184 [] [] r Q) (fun s x hb hh he => pbX12_lay_34 hb hh he) ?_) ⟨rfl, rfl, rfl, rfl, rfl, rfl, rfl, trivial⟩
  refine (?_ : ps_At mX12_lay (d + 5) 184 [] [] s63 Q)
  refine sX12_lay_184 ?_
  cases h
  exact ⟨rfl, rfl, hk⟩
noncomputable def jX12_own_27 (g : ps_G) (k0 : Int32) : Option (Int32) := some k0
theorem pjX12_own_27 {d : Nat} {Q : ps_Rs → ps_G → Prop} {g : ps_G} {k0 : Int32} {r : Int32} (h : jX12_own_27 g k0 = some r) (hk : Q (.inl (some (.int r))) g) : ps_At mX12_own (d + 1) 27 [] [.int k0] g Q := by
  unfold jX12_own_27 at h
  refine sX12_own_27 ?_
  cases h
  exact ⟨rfl, hk⟩
noncomputable def fX12_own (g : ps_G) (x0 : Nat) (x1 : Int32) (x2 : Int32) (x3 : Int32) : Option (Int32) := Option.bind (q_ob 12 g x0) fun u1 => Option.bind (fX12_isPlace g x0 x2 x3) fun v2 => if v2 = 0 then (jX12_own_27 g (0 : Int32)) else (Option.bind (q_ob 12 g x0) fun u5 => Option.bind (fX12_at g x0 x2 x3) fun v6 => Option.bind (q_ob 12 g x0) fun u7 => Option.bind (fX12_get g x0 x1 ((17 : Int32) + v6)) fun v8 => jX12_own_27 g v8)
theorem rX12_own {d : Nat} {Q : ps_Rs → ps_G → Prop} {g : ps_G} {x0 : Nat} {x1 : Int32} {x2 : Int32} {x3 : Int32} {r : Int32} (h : fX12_own g x0 x1 x2 x3 = some r) (hk : Q (.inl (some (.int r))) g) : ps_Ok mX12_own (d + 1) [.ref x0, .int x1, .int x2, .int x3] g Q := by
  unfold fX12_own at h
  refine sX12_own_0 ?_
  replace h := q_be h
  obtain ⟨u1, hv, h⟩ := h
  replace hv := q_ob_e hv
  obtain ⟨_, cu1⟩ := hv
  replace h := q_be h
  obtain ⟨v2, hv, h⟩ := h
  refine ⟨⟨some _, rfl⟩, ⟨_, cu1⟩, ?_⟩
  refine rX12_isPlace hv ?_
  refine And.intro (fun hc3 => ?_) (fun hc3 => ?_)
  · replace h := q_ifp (hc3) h
    refine sX12_own_26 ?_
    exact ps_weak (pjX12_own_27 h hk) trivial
  · replace h := q_ifn (hc3) h
    replace h := q_be h
    obtain ⟨u5, hv, h⟩ := h
    replace hv := q_ob_e hv
    obtain ⟨_, cu5⟩ := hv
    replace h := q_be h
    obtain ⟨v6, hv, h⟩ := h
    refine ⟨⟨some _, rfl⟩, ⟨some _, rfl⟩, ⟨_, cu5⟩, ?_⟩
    refine rX12_at hv ?_
    replace h := q_be h
    obtain ⟨u7, hv, h⟩ := h
    replace hv := q_ob_e hv
    obtain ⟨_, cu7⟩ := hv
    replace h := q_be h
    obtain ⟨v8, hv, h⟩ := h
    refine ⟨⟨_, cu7⟩, ?_⟩
    refine rX12_get hv ?_
    exact ps_weak (pjX12_own_27 h hk) trivial
noncomputable def jX12_ramped_116 (g : ps_G) (k0 : Int32) : Option (Int32) := some k0
theorem pjX12_ramped_116 {d : Nat} {Q : ps_Rs → ps_G → Prop} {g : ps_G} {k0 : Int32} {r : Int32} (h : jX12_ramped_116 g k0 = some r) (hk : Q (.inl (some (.int r))) g) : ps_At mX12_ramped (d + 2) 116 [] [.int k0] g Q := by
  unfold jX12_ramped_116 at h
  refine sX12_ramped_116 ?_
  cases h
  exact ⟨rfl, hk⟩
noncomputable def fX12_ramped (g : ps_G) (x0 : Nat) (x1 : Int32) (x2 : Int32) (x3 : Int32) : Option (Int32) := Option.bind (q_ob 12 g x0) fun u1 => Option.bind (fX12_get g x0 x1 (13 : Int32)) fun v2 => Option.bind (q_ob 12 g x0) fun u3 => Option.bind (fX12_get g x0 x1 (14 : Int32)) fun v4 => Option.bind (q_ob 12 g x0) fun u5 => Option.bind (fX12_get g x0 x1 (15 : Int32)) fun v6 => Option.bind (q_ob 12 g x0) fun u7 => Option.bind (fX12_get g x0 x1 (16 : Int32)) fun v8 => if ¬ (((v6 - v2) * (v6 - v2)) + ((v8 - v4) * (v8 - v4))) = 0 then (Option.bind (q_ob 12 g x0) fun u11 => Option.bind (fX12_get g x0 x1 (11 : Int32)) fun v12 => Option.bind (q_ob 12 g x0) fun u13 => Option.bind (fX12_get g x0 x1 (12 : Int32)) fun v14 => Option.bind (q_div ((255 : Int32) * (((x2 - v2) * (v6 - v2)) + ((x3 - v4) * (v8 - v4)))) (((v6 - v2) * (v6 - v2)) + ((v8 - v4) * (v8 - v4)))) fun v15 => Option.bind (fX12_mixed g v12 v14 (fX12_clip v15)) fun v16 => jX12_ramped_116 g v16) else (Option.bind (q_ob 12 g x0) fun u17 => Option.bind (fX12_get g x0 x1 (11 : Int32)) fun v18 => jX12_ramped_116 g v18)
theorem rX12_ramped {d : Nat} {Q : ps_Rs → ps_G → Prop} {g : ps_G} {x0 : Nat} {x1 : Int32} {x2 : Int32} {x3 : Int32} {r : Int32} (h : fX12_ramped g x0 x1 x2 x3 = some r) (hk : Q (.inl (some (.int r))) g) : ps_Ok mX12_ramped (d + 2) [.ref x0, .int x1, .int x2, .int x3] g Q := by
  unfold fX12_ramped at h
  refine sX12_ramped_0 ?_
  replace h := q_be h
  obtain ⟨u1, hv, h⟩ := h
  replace hv := q_ob_e hv
  obtain ⟨_, cu1⟩ := hv
  replace h := q_be h
  obtain ⟨v2, hv, h⟩ := h
  refine ⟨⟨some _, rfl⟩, ⟨_, cu1⟩, ?_⟩
  refine rX12_get hv ?_
  replace h := q_be h
  obtain ⟨u3, hv, h⟩ := h
  replace hv := q_ob_e hv
  obtain ⟨_, cu3⟩ := hv
  replace h := q_be h
  obtain ⟨v4, hv, h⟩ := h
  refine ⟨by decide, ⟨some _, rfl⟩, ⟨_, cu3⟩, ?_⟩
  refine rX12_get hv ?_
  replace h := q_be h
  obtain ⟨u5, hv, h⟩ := h
  replace hv := q_ob_e hv
  obtain ⟨_, cu5⟩ := hv
  replace h := q_be h
  obtain ⟨v6, hv, h⟩ := h
  refine ⟨by decide, ⟨some _, rfl⟩, ⟨_, cu5⟩, ?_⟩
  refine rX12_get hv ?_
  replace h := q_be h
  obtain ⟨u7, hv, h⟩ := h
  replace hv := q_ob_e hv
  obtain ⟨_, cu7⟩ := hv
  replace h := q_be h
  obtain ⟨v8, hv, h⟩ := h
  refine ⟨by decide, ⟨some _, rfl⟩, ⟨_, cu7⟩, ?_⟩
  refine rX12_get hv ?_
  refine ⟨by decide, by decide, by decide, ?_⟩
  refine And.intro (fun hc9 => ?_) (fun hc9 => ?_)
  · replace h := q_ifp (hc9) h
    refine sX12_ramped_87 ?_
    replace h := q_be h
    obtain ⟨u11, hv, h⟩ := h
    replace hv := q_ob_e hv
    obtain ⟨_, cu11⟩ := hv
    replace h := q_be h
    obtain ⟨v12, hv, h⟩ := h
    refine ⟨⟨some _, rfl⟩, ⟨_, cu11⟩, ?_⟩
    refine rX12_get hv ?_
    replace h := q_be h
    obtain ⟨u13, hv, h⟩ := h
    replace hv := q_ob_e hv
    obtain ⟨_, cu13⟩ := hv
    replace h := q_be h
    obtain ⟨v14, hv, h⟩ := h
    refine ⟨⟨some _, rfl⟩, ⟨_, cu13⟩, ?_⟩
    refine rX12_get hv ?_
    replace h := q_be h
    obtain ⟨v15, hv, h⟩ := h
    replace hv := q_div_e hv
    obtain ⟨zv15, yv15⟩ := hv
    refine ⟨zv15, _, yv15, ?_⟩
    refine rX12_clip rfl ?_
    replace h := q_be h
    obtain ⟨v16, hv, h⟩ := h
    refine rX12_mixed hv ?_
    exact ps_weak (pjX12_ramped_116 h hk) trivial
  · replace h := q_ifn (hc9) h
    replace h := q_be h
    obtain ⟨u17, hv, h⟩ := h
    replace hv := q_ob_e hv
    obtain ⟨_, cu17⟩ := hv
    replace h := q_be h
    obtain ⟨v18, hv, h⟩ := h
    refine ⟨⟨some _, rfl⟩, ⟨_, cu17⟩, ?_⟩
    refine rX12_get hv ?_
    exact ps_weak (pjX12_ramped_116 h hk) trivial
def fX12_hard (x0 : Int32) (x1 : Int32) : Int32 := if (128 : Int32) ≤ x1 then ((x0 + (((2 : Int32) * x1) - (255 : Int32))) - (fX12_mul x0 (((2 : Int32) * x1) - (255 : Int32)))) else (fX12_mul ((2 : Int32) * x1) x0)
theorem rX12_hard {d : Nat} {Q : ps_Rs → ps_G → Prop} {g : ps_G} {x0 : Int32} {x1 : Int32} {r : Int32} (h : fX12_hard x0 x1 = r) (hk : Q (.inl (some (.int r))) g) : ps_Ok mX12_hard (d + 1) [.int x0, .int x1] g Q := by
  unfold fX12_hard at h
  refine sX12_hard_0 ?_
  refine And.intro (fun hc1 => ?_) (fun hc1 => ?_)
  · replace h := q_ifp (hc1) h
    refine sX12_hard_15 ?_
    refine ⟨by decide, ?_⟩
    refine rX12_mul rfl ?_
    subst h
    exact ⟨rfl, hk⟩
  · replace h := q_ifn (hc1) h
    refine rX12_mul rfl ?_
    subst h
    exact ⟨rfl, hk⟩
noncomputable def jX12_blend_160 (g : ps_G) (k0 : Int32) : Option (Int32) := some k0
theorem pjX12_blend_160 {d : Nat} {Q : ps_Rs → ps_G → Prop} {g : ps_G} {k0 : Int32} {r : Int32} (h : jX12_blend_160 g k0 = some r) (hk : Q (.inl (some (.int r))) g) : ps_At mX12_blend (d + 2) 160 [] [.int k0] g Q := by
  unfold jX12_blend_160 at h
  refine sX12_blend_160 ?_
  cases h
  exact ⟨rfl, hk⟩
noncomputable def jX12_blend_203 (g : ps_G) (k0 : Int32) : Option (Int32) := some k0
theorem pjX12_blend_203 {d : Nat} {Q : ps_Rs → ps_G → Prop} {g : ps_G} {k0 : Int32} {r : Int32} (h : jX12_blend_203 g k0 = some r) (hk : Q (.inl (some (.int r))) g) : ps_At mX12_blend (d + 2) 203 [] [.int k0] g Q := by
  unfold jX12_blend_203 at h
  refine sX12_blend_203 ?_
  cases h
  exact ⟨rfl, hk⟩
noncomputable def fX12_blend (g : ps_G) (x0 : Int32) (x1 : Int32) (x2 : Int32) (x3 : Int32) (x4 : Int32) : Option (Int32) := if x0 = 0 then (some x2) else (if x0 = 1 then (some (fX12_mul x1 x2)) else (if x0 = 2 then (some ((x1 + x2) - (fX12_mul x1 x2))) else (if x0 = 3 then (some (fX12_hard x2 x1)) else (if x0 = 4 then (some (if x2 ≤ x1 then x2 else x1)) else (if x0 = 5 then (some (if x1 ≤ x2 then x2 else x1)) else (if x0 = 6 then (if ¬ x1 = 0 then (if ¬ x2 = (255 : Int32) then (Option.bind (q_div ((255 : Int32) * x1) ((255 : Int32) - x2)) fun v19 => jX12_blend_160 g (fX12_least (255 : Int32) v19)) else (jX12_blend_160 g (255 : Int32))) else (jX12_blend_160 g (0 : Int32))) else (if x0 = 7 then (if ¬ x1 = (255 : Int32) then (if ¬ x2 = 0 then (Option.bind (q_div ((255 : Int32) * ((255 : Int32) - x1)) x2) fun v30 => jX12_blend_203 g ((255 : Int32) - (fX12_least (255 : Int32) v30))) else (jX12_blend_203 g (0 : Int32))) else (jX12_blend_203 g (255 : Int32))) else (if x0 = 8 then (some (fX12_hard x1 x2)) else (if x0 = 9 then (some (fX12_abs (x1 - x2))) else (if x0 = 10 then (some ((x1 + x2) - ((2 : Int32) * (fX12_mul x1 x2)))) else (if x0 = 11 then (some (fX12_least (255 : Int32) (x1 + x2))) else (if x0 = 12 then (some (if 0 ≤ (x1 - x2) then x1 - x2 else (0 : Int32))) else (if x0 = 13 then (some (fX12_clip ((fX12_mul ((255 : Int32) - x1) (fX12_mul x1 x2)) + (fX12_mul x1 ((x1 + x2) - (fX12_mul x1 x2)))))) else (if x0 = 14 then (some (fX12_clip ((x1 + x4) - x3))) else (some (fX12_clip ((x2 + x3) - x4)))))))))))))))))
theorem rX12_blend {d : Nat} {Q : ps_Rs → ps_G → Prop} {g : ps_G} {x0 : Int32} {x1 : Int32} {x2 : Int32} {x3 : Int32} {x4 : Int32} {r : Int32} (h : fX12_blend g x0 x1 x2 x3 x4 = some r) (hk : Q (.inl (some (.int r))) g) : ps_Ok mX12_blend (d + 2) [.int x0, .int x1, .int x2, .int x3, .int x4] g Q := by
  unfold fX12_blend at h
  refine sX12_blend_0 ?_
  refine sX12_blend_1 ?_
  by_cases hc1 : x0 = 0
  · replace h := q_ifp hc1 h
    have eT : ps_tsel 1 293 0 14 #[75, 77, 83, 93, 99, 110, 121, 160, 203, 209, 216, 228, 238, 252, 283] x0 = 76 := by
      rw [hc1]; decide +kernel
    refine ps_at_eq eT ?_
    refine sX12_blend_76 ?_
    cases h
    exact ⟨rfl, hk⟩
  replace h := q_ifn hc1 h
  by_cases hc2 : x0 = 1
  · replace h := q_ifp hc2 h
    have eT : ps_tsel 1 293 0 14 #[75, 77, 83, 93, 99, 110, 121, 160, 203, 209, 216, 228, 238, 252, 283] x0 = 78 := by
      rw [hc2]; decide +kernel
    refine ps_at_eq eT ?_
    refine sX12_blend_78 ?_
    refine rX12_mul rfl ?_
    cases h
    exact ⟨rfl, hk⟩
  replace h := q_ifn hc2 h
  by_cases hc3 : x0 = 2
  · replace h := q_ifp hc3 h
    have eT : ps_tsel 1 293 0 14 #[75, 77, 83, 93, 99, 110, 121, 160, 203, 209, 216, 228, 238, 252, 283] x0 = 84 := by
      rw [hc3]; decide +kernel
    refine ps_at_eq eT ?_
    refine sX12_blend_84 ?_
    refine rX12_mul rfl ?_
    cases h
    exact ⟨rfl, hk⟩
  replace h := q_ifn hc3 h
  by_cases hc4 : x0 = 3
  · replace h := q_ifp hc4 h
    have eT : ps_tsel 1 293 0 14 #[75, 77, 83, 93, 99, 110, 121, 160, 203, 209, 216, 228, 238, 252, 283] x0 = 94 := by
      rw [hc4]; decide +kernel
    refine ps_at_eq eT ?_
    refine sX12_blend_94 ?_
    refine rX12_hard rfl ?_
    cases h
    exact ⟨rfl, hk⟩
  replace h := q_ifn hc4 h
  by_cases hc5 : x0 = 4
  · replace h := q_ifp hc5 h
    have eT : ps_tsel 1 293 0 14 #[75, 77, 83, 93, 99, 110, 121, 160, 203, 209, 216, 228, 238, 252, 283] x0 = 100 := by
      rw [hc5]; decide +kernel
    refine ps_at_eq eT ?_
    refine sX12_blend_100 ?_
    have kJ8 : ∀ w7 : Int32, w7 = (if x2 ≤ x1 then x2 else x1) → ps_At mX12_blend (d + 2) 110 [] [.int w7] g Q := by
      rintro _ rfl
      refine sX12_blend_110 ?_
      cases h
      exact ⟨rfl, hk⟩
    refine And.intro (fun hc6 => ?_) (fun hc6 => ?_)
    · refine sX12_blend_109 ?_
      exact ps_weak (kJ8 _ (if_pos (hc6)).symm) trivial
    · exact ps_weak (kJ8 _ (if_neg (hc6)).symm) trivial
  replace h := q_ifn hc5 h
  by_cases hc9 : x0 = 5
  · replace h := q_ifp hc9 h
    have eT : ps_tsel 1 293 0 14 #[75, 77, 83, 93, 99, 110, 121, 160, 203, 209, 216, 228, 238, 252, 283] x0 = 111 := by
      rw [hc9]; decide +kernel
    refine ps_at_eq eT ?_
    refine sX12_blend_111 ?_
    have kJ12 : ∀ w11 : Int32, w11 = (if x1 ≤ x2 then x2 else x1) → ps_At mX12_blend (d + 2) 121 [] [.int w11] g Q := by
      rintro _ rfl
      refine sX12_blend_121 ?_
      cases h
      exact ⟨rfl, hk⟩
    refine And.intro (fun hc10 => ?_) (fun hc10 => ?_)
    · refine sX12_blend_120 ?_
      exact ps_weak (kJ12 _ (if_pos (hc10)).symm) trivial
    · exact ps_weak (kJ12 _ (if_neg (hc10)).symm) trivial
  replace h := q_ifn hc9 h
  by_cases hc13 : x0 = 6
  · replace h := q_ifp hc13 h
    have eT : ps_tsel 1 293 0 14 #[75, 77, 83, 93, 99, 110, 121, 160, 203, 209, 216, 228, 238, 252, 283] x0 = 122 := by
      rw [hc13]; decide +kernel
    refine ps_at_eq eT ?_
    refine sX12_blend_122 ?_
    refine And.intro (fun hc14 => ?_) (fun hc14 => ?_)
    · replace h := q_ifp (hc14) h
      refine sX12_blend_130 ?_
      refine And.intro (fun hc17 => ?_) (fun hc17 => ?_)
      · replace h := q_ifp (hc17) h
        refine sX12_blend_143 ?_
        replace h := q_be h
        obtain ⟨v19, hv, h⟩ := h
        replace hv := q_div_e hv
        obtain ⟨zv19, yv19⟩ := hv
        refine ⟨zv19, _, yv19, ?_⟩
        refine rX12_least rfl ?_
        exact ps_weak (pjX12_blend_160 h hk) trivial
      · replace h := q_ifn (hc17) h
        exact ps_weak (pjX12_blend_160 h hk) trivial
    · replace h := q_ifn (hc14) h
      exact ps_weak (pjX12_blend_160 h hk) trivial
  replace h := q_ifn hc13 h
  by_cases hc24 : x0 = 7
  · replace h := q_ifp hc24 h
    have eT : ps_tsel 1 293 0 14 #[75, 77, 83, 93, 99, 110, 121, 160, 203, 209, 216, 228, 238, 252, 283] x0 = 161 := by
      rw [hc24]; decide +kernel
    refine ps_at_eq eT ?_
    refine sX12_blend_161 ?_
    refine And.intro (fun hc25 => ?_) (fun hc25 => ?_)
    · replace h := q_ifp (hc25) h
      refine sX12_blend_174 ?_
      refine And.intro (fun hc28 => ?_) (fun hc28 => ?_)
      · replace h := q_ifp (hc28) h
        refine sX12_blend_182 ?_
        replace h := q_be h
        obtain ⟨v30, hv, h⟩ := h
        replace hv := q_div_e hv
        obtain ⟨zv30, yv30⟩ := hv
        refine ⟨zv30, _, yv30, ?_⟩
        refine rX12_least rfl ?_
        exact ps_weak (pjX12_blend_203 h hk) trivial
      · replace h := q_ifn (hc28) h
        exact ps_weak (pjX12_blend_203 h hk) trivial
    · replace h := q_ifn (hc25) h
      exact ps_weak (pjX12_blend_203 h hk) trivial
  replace h := q_ifn hc24 h
  by_cases hc35 : x0 = 8
  · replace h := q_ifp hc35 h
    have eT : ps_tsel 1 293 0 14 #[75, 77, 83, 93, 99, 110, 121, 160, 203, 209, 216, 228, 238, 252, 283] x0 = 204 := by
      rw [hc35]; decide +kernel
    refine ps_at_eq eT ?_
    refine sX12_blend_204 ?_
    refine rX12_hard rfl ?_
    cases h
    exact ⟨rfl, hk⟩
  replace h := q_ifn hc35 h
  by_cases hc36 : x0 = 9
  · replace h := q_ifp hc36 h
    have eT : ps_tsel 1 293 0 14 #[75, 77, 83, 93, 99, 110, 121, 160, 203, 209, 216, 228, 238, 252, 283] x0 = 210 := by
      rw [hc36]; decide +kernel
    refine ps_at_eq eT ?_
    refine sX12_blend_210 ?_
    refine rX12_abs rfl ?_
    cases h
    exact ⟨rfl, hk⟩
  replace h := q_ifn hc36 h
  by_cases hc37 : x0 = 10
  · replace h := q_ifp hc37 h
    have eT : ps_tsel 1 293 0 14 #[75, 77, 83, 93, 99, 110, 121, 160, 203, 209, 216, 228, 238, 252, 283] x0 = 217 := by
      rw [hc37]; decide +kernel
    refine ps_at_eq eT ?_
    refine sX12_blend_217 ?_
    refine rX12_mul rfl ?_
    cases h
    exact ⟨rfl, hk⟩
  replace h := q_ifn hc37 h
  by_cases hc38 : x0 = 11
  · replace h := q_ifp hc38 h
    have eT : ps_tsel 1 293 0 14 #[75, 77, 83, 93, 99, 110, 121, 160, 203, 209, 216, 228, 238, 252, 283] x0 = 229 := by
      rw [hc38]; decide +kernel
    refine ps_at_eq eT ?_
    refine sX12_blend_229 ?_
    refine rX12_least rfl ?_
    cases h
    exact ⟨rfl, hk⟩
  replace h := q_ifn hc38 h
  by_cases hc39 : x0 = 12
  · replace h := q_ifp hc39 h
    have eT : ps_tsel 1 293 0 14 #[75, 77, 83, 93, 99, 110, 121, 160, 203, 209, 216, 228, 238, 252, 283] x0 = 239 := by
      rw [hc39]; decide +kernel
    refine ps_at_eq eT ?_
    refine sX12_blend_239 ?_
    have kJ42 : ∀ w41 : Int32, w41 = (if 0 ≤ (x1 - x2) then x1 - x2 else (0 : Int32)) → ps_At mX12_blend (d + 2) 252 [] [.int w41] g Q := by
      rintro _ rfl
      refine sX12_blend_252 ?_
      cases h
      exact ⟨rfl, hk⟩
    refine And.intro (fun hc40 => ?_) (fun hc40 => ?_)
    · refine sX12_blend_249 ?_
      exact ps_weak (kJ42 _ (if_pos (hc40)).symm) trivial
    · exact ps_weak (kJ42 _ (if_neg (hc40)).symm) trivial
  replace h := q_ifn hc39 h
  by_cases hc43 : x0 = 13
  · replace h := q_ifp hc43 h
    have eT : ps_tsel 1 293 0 14 #[75, 77, 83, 93, 99, 110, 121, 160, 203, 209, 216, 228, 238, 252, 283] x0 = 253 := by
      rw [hc43]; decide +kernel
    refine ps_at_eq eT ?_
    refine sX12_blend_253 ?_
    refine rX12_mul rfl ?_
    refine rX12_mul rfl ?_
    refine rX12_mul rfl ?_
    refine rX12_mul rfl ?_
    refine rX12_clip rfl ?_
    cases h
    exact ⟨rfl, hk⟩
  replace h := q_ifn hc43 h
  by_cases hc44 : x0 = 14
  · replace h := q_ifp hc44 h
    have eT : ps_tsel 1 293 0 14 #[75, 77, 83, 93, 99, 110, 121, 160, 203, 209, 216, 228, 238, 252, 283] x0 = 284 := by
      rw [hc44]; decide +kernel
    refine ps_at_eq eT ?_
    refine sX12_blend_284 ?_
    refine rX12_clip rfl ?_
    cases h
    exact ⟨rfl, hk⟩
  replace h := q_ifn hc44 h
  have eD : ps_tsel 1 293 0 14 #[75, 77, 83, 93, 99, 110, 121, 160, 203, 209, 216, 228, 238, 252, 283] x0 = 294 := by
    refine q_tsd (by decide +kernel) (fun z h1 h2 => ?_)
    have hz : z = 0 ∨ z = 1 ∨ z = 2 ∨ z = 3 ∨ z = 4 ∨ z = 5 ∨ z = 6 ∨ z = 7 ∨ z = 8 ∨ z = 9 ∨ z = 10 ∨ z = 11 ∨ z = 12 ∨ z = 13 ∨ z = 14 := by omega
    rcases hz with rfl | rfl | rfl | rfl | rfl | rfl | rfl | rfl | rfl | rfl | rfl | rfl | rfl | rfl | rfl
    · exact Or.inl (q_tsx (v := 0) (fun z => hc1 z))
    · exact Or.inl (q_tsx (v := 1) (fun z => hc2 z))
    · exact Or.inl (q_tsx (v := 2) (fun z => hc3 z))
    · exact Or.inl (q_tsx (v := 3) (fun z => hc4 z))
    · exact Or.inl (q_tsx (v := 4) (fun z => hc5 z))
    · exact Or.inl (q_tsx (v := 5) (fun z => hc9 z))
    · exact Or.inl (q_tsx (v := 6) (fun z => hc13 z))
    · exact Or.inl (q_tsx (v := 7) (fun z => hc24 z))
    · exact Or.inl (q_tsx (v := 8) (fun z => hc35 z))
    · exact Or.inl (q_tsx (v := 9) (fun z => hc36 z))
    · exact Or.inl (q_tsx (v := 10) (fun z => hc37 z))
    · exact Or.inl (q_tsx (v := 11) (fun z => hc38 z))
    · exact Or.inl (q_tsx (v := 12) (fun z => hc39 z))
    · exact Or.inl (q_tsx (v := 13) (fun z => hc43 z))
    · exact Or.inl (q_tsx (v := 14) (fun z => hc44 z))
  refine ps_at_eq eD ?_
  refine sX12_blend_294 ?_
  refine rX12_clip rfl ?_
  cases h
  exact ⟨rfl, hk⟩
noncomputable def bX12_over_58 (g : ps_G) (x0 : Int32) (x1 : Int32) (x2 : Int32) (x3 : Int32) (x4 : Int32) (x5 : Int32) (x7 : Int32) (x8 : Int32) (x6 : Int32) (x9 : Int32) : Option ((Int32 × Int32) ⊕ (Int32)) := if (3 : Int32) ≤ x9 then (some (.inr x6)) else (Option.bind (fX12_blend g x0 (fX12_part x1 x9) (fX12_part x2 x9) x7 x8) fun v4 => Option.bind (q_div (((((255 : Int32) * x3) * (fX12_mix (fX12_part x2 x9) v4 x4)) + ((((255 : Int32) - x3) * x4) * (fX12_part x1 x9))) + (x5 / (2 : Int32))) x5) fun v5 => some (.inl (x6 ||| (q_shl v5 ((16 : Int32) - ((8 : Int32) * x9))), x9 + (1 : Int32))))
theorem pbX12_over_58 {d : Nat} {Q : ps_Rs → ps_G → Prop} {g : ps_G} {x0 : Int32} {x1 : Int32} {x2 : Int32} {x3 : Int32} {x4 : Int32} {x5 : Int32} {x7 : Int32} {x8 : Int32} {x6 : Int32} {x9 : Int32} {x : (Int32 × Int32) ⊕ (Int32)} (h : bX12_over_58 g x0 x1 x2 x3 x4 x5 x7 x8 x6 x9 = some x) (hh : ∀ s' : Int32 × Int32, x = .inl s' → ps_At mX12_over (d + 3) 58 [(0, .int x0), (1, .int x1), (2, .int x2), (3, .int x3), (4, .int x4), (5, .int x5), (6, .int s'.1), (7, .int x7), (8, .int x8), (9, .int s'.2)] [] g Q) (he : ∀ r' : Int32, x = .inr r' → ps_At mX12_over (d + 3) 153 [(6, .int r')] [] g Q) : ps_At mX12_over (d + 3) 58 [(0, .int x0), (1, .int x1), (2, .int x2), (3, .int x3), (4, .int x4), (5, .int x5), (6, .int x6), (7, .int x7), (8, .int x8), (9, .int x9)] [] g Q := by
  unfold bX12_over_58 at h
  refine sX12_over_58 ?_
  refine And.intro (fun hc2 => ?_) (fun hc2 => ?_)
  · replace h := q_ifp (hc2) h
    exact ps_weak (he x6 (Option.some.inj h).symm) ⟨rfl, trivial⟩
  · replace h := q_ifn (hc2) h
    refine rX12_part rfl ?_
    refine ⟨by decide, ?_⟩
    refine rX12_part rfl ?_
    replace h := q_be h
    obtain ⟨v4, hv, h⟩ := h
    refine ⟨by decide, ?_⟩
    refine rX12_blend hv ?_
    refine rX12_mix rfl ?_
    replace h := q_be h
    obtain ⟨v5, hv, h⟩ := h
    replace hv := q_div_e hv
    obtain ⟨zv5, yv5⟩ := hv
    refine ⟨by decide, by decide, _, rfl, zv5, _, yv5, by decide, by decide, by decide, ?_⟩
    exact ps_weak (hh (x6 ||| (q_shl v5 ((16 : Int32) - ((8 : Int32) * x9))), x9 + (1 : Int32)) (Option.some.inj h).symm) ⟨rfl, rfl, rfl, rfl, rfl, rfl, rfl, rfl, rfl, rfl, trivial⟩
noncomputable def fX12_over (g : ps_G) (x0 : Int32) (x1 : Int32) (x2 : Int32) (x3 : Int32) : Option (Int32) := if ¬ (((255 : Int32) * x3) + (((255 : Int32) - x3) * (fX12_alpha x1))) = 0 then (Option.bind (q_lp (fun s => bX12_over_58 g x0 x1 x2 x3 (fX12_alpha x1) (((255 : Int32) * x3) + (((255 : Int32) - x3) * (fX12_alpha x1))) (fX12_bright x1) (fX12_bright x2) s.1 s.2) (q_shl (((((255 : Int32) * x3) + (((255 : Int32) - x3) * (fX12_alpha x1))) + (127 : Int32)) / (255 : Int32)) (24 : Int32), (0 : Int32))) fun s8 => some s8) else (some (0 : Int32))
theorem rX12_over {d : Nat} {Q : ps_Rs → ps_G → Prop} {g : ps_G} {x0 : Int32} {x1 : Int32} {x2 : Int32} {x3 : Int32} {r : Int32} (h : fX12_over g x0 x1 x2 x3 = some r) (hk : Q (.inl (some (.int r))) g) : ps_Ok mX12_over (d + 3) [.int x0, .int x1, .int x2, .int x3] g Q := by
  unfold fX12_over at h
  refine sX12_over_0 ?_
  refine rX12_alpha rfl ?_
  refine ⟨by decide, by decide, ?_⟩
  refine And.intro (fun hc1 => ?_) (fun hc1 => ?_)
  · replace h := q_ifp (hc1) h
    refine sX12_over_29 ?_
    refine ⟨by decide, _, rfl, by decide, ?_⟩
    refine rX12_bright rfl ?_
    refine ⟨by decide, ?_⟩
    refine rX12_bright rfl ?_
    refine ⟨by decide, by decide, ?_⟩
    replace h := q_be h
    obtain ⟨s8, hl, h⟩ := h
    refine ps_weak (q_lp_ok hl (fun s => ps_At mX12_over (d + 3) 58 [(0, .int x0), (1, .int x1), (2, .int x2), (3, .int x3), (4, .int (fX12_alpha x1)), (5, .int (((255 : Int32) * x3) + (((255 : Int32) - x3) * (fX12_alpha x1)))), (6, .int s.1), (7, .int (fX12_bright x1)), (8, .int (fX12_bright x2)), (9, .int s.2)] [] g Q) (fun r => ps_At mX12_over (d + 3) 153 [(6, .int r)] [] g Q) (fun s x hb hh he => pbX12_over_58 hb hh he) ?_) ⟨rfl, rfl, rfl, rfl, rfl, rfl, rfl, rfl, rfl, rfl, trivial⟩
    refine (?_ : ps_At mX12_over (d + 3) 153 [(6, .int s8)] [] g Q)
    refine sX12_over_153 ?_
    cases h
    exact ⟨rfl, hk⟩
  · replace h := q_ifn (hc1) h
    cases h
    exact ⟨rfl, hk⟩
noncomputable def jX12_layOver_246_40 (g : ps_G) (x0 : Nat) (x1 : Int32) (x2 : Int32) (x3 : Int32) (x4 : Int32) (x6 : Int32) (x7 : Int32) (x8 : Int32) (x9 : Int32) : Option ((Int32 × ps_G) ⊕ (ps_G)) := some (.inl (x9 + (1 : Int32), g))
theorem pjX12_layOver_246_40 {d : Nat} {Q : ps_Rs → ps_G → Prop} {g : ps_G} {x0 : Nat} {x1 : Int32} {x2 : Int32} {x3 : Int32} {x4 : Int32} {x6 : Int32} {x7 : Int32} {x8 : Int32} {x9 : Int32} {x : (Int32 × ps_G) ⊕ (ps_G)} (h : jX12_layOver_246_40 g x0 x1 x2 x3 x4 x6 x7 x8 x9 = some x) (hh : ∀ s' : Int32 × ps_G, x = .inl s' → ps_At mX12_layOver (d + 4) 40 [(0, .ref x0), (1, .int x1), (2, .int x2), (3, .int x3), (4, .int x4), (6, .int x6), (7, .int x7), (8, .int x8), (9, .int s'.1)] [] s'.2 Q) (he : ∀ r' : ps_G, x = .inr r' → ps_At mX12_layOver (d + 4) 252 [(0, .ref x0), (1, .int x1), (2, .int x2), (3, .int x3), (4, .int x4), (6, .int x6), (7, .int x7), (8, .int x8)] [] r' Q) : ps_At mX12_layOver (d + 4) 246 [(0, .ref x0), (1, .int x1), (2, .int x2), (3, .int x3), (4, .int x4), (6, .int x6), (7, .int x7), (8, .int x8), (9, .int x9)] [] g Q := by
  unfold jX12_layOver_246_40 at h
  refine sX12_layOver_246 ?_
  refine ⟨by decide, ?_⟩
  exact ps_weak (hh (x9 + (1 : Int32), g) (Option.some.inj h).symm) ⟨rfl, rfl, rfl, rfl, rfl, rfl, rfl, rfl, rfl, trivial⟩
noncomputable def jX12_layOver_171_40 (g : ps_G) (x0 : Nat) (x1 : Int32) (x2 : Int32) (x3 : Int32) (x4 : Int32) (x6 : Int32) (x7 : Int32) (x8 : Int32) (x9 : Int32) (x10 : Int32) (x11 : Int32) (k0 : Int32) : Option ((Int32 × ps_G) ⊕ (ps_G)) := Option.bind (q_ob 12 g x0) fun u28 => Option.bind (fX12_get g x0 x1 (4 : Int32)) fun v29 => Option.bind (q_ob 12 g x0) fun u30 => Option.bind (fX12_maskOf g x0 x1 x10) fun v31 => Option.bind (q_fR 12 16 g x0) fun v32 => Option.bind (v32) fun a33 => Option.bind (q_fR 12 16 g x0) fun v34 => Option.bind (v34) fun a35 => Option.bind (q_aI g a35 (x2 + x10)) fun v36 => Option.bind (fX12_over g x7 v36 x11 (fX12_mul (fX12_mul (fX12_mul (fX12_alpha x11) v29) v31) k0)) fun v37 => Option.bind (q_wI g a33 (x2 + x10) v37) fun g38 => if ¬ x3 = 0 then (jX12_layOver_246_40 g38 x0 x1 x2 x3 x4 x6 x7 x8 x9) else (Option.bind (q_fR 12 17 g38 x0) fun v41 => Option.bind (v41) fun a42 => Option.bind (q_wI g38 a42 (x2 + x10) (fX12_mul (fX12_mul (fX12_mul (fX12_alpha x11) v29) v31) k0)) fun g43 => jX12_layOver_246_40 g43 x0 x1 x2 x3 x4 x6 x7 x8 x9)
theorem pjX12_layOver_171_40 {d : Nat} {Q : ps_Rs → ps_G → Prop} {g : ps_G} {x0 : Nat} {x1 : Int32} {x2 : Int32} {x3 : Int32} {x4 : Int32} {x6 : Int32} {x7 : Int32} {x8 : Int32} {x9 : Int32} {x10 : Int32} {x11 : Int32} {k0 : Int32} {x : (Int32 × ps_G) ⊕ (ps_G)} (h : jX12_layOver_171_40 g x0 x1 x2 x3 x4 x6 x7 x8 x9 x10 x11 k0 = some x) (hh : ∀ s' : Int32 × ps_G, x = .inl s' → ps_At mX12_layOver (d + 4) 40 [(0, .ref x0), (1, .int x1), (2, .int x2), (3, .int x3), (4, .int x4), (6, .int x6), (7, .int x7), (8, .int x8), (9, .int s'.1)] [] s'.2 Q) (he : ∀ r' : ps_G, x = .inr r' → ps_At mX12_layOver (d + 4) 252 [(0, .ref x0), (1, .int x1), (2, .int x2), (3, .int x3), (4, .int x4), (6, .int x6), (7, .int x7), (8, .int x8)] [] r' Q) : ps_At mX12_layOver (d + 4) 171 [(0, .ref x0), (1, .int x1), (2, .int x2), (3, .int x3), (4, .int x4), (6, .int x6), (7, .int x7), (8, .int x8), (9, .int x9), (10, .int x10), (11, .int x11)] [.int k0] g Q := by
  unfold jX12_layOver_171_40 at h
  refine sX12_layOver_171 ?_
  refine ⟨by decide, ?_⟩
  refine rX12_alpha rfl ?_
  replace h := q_be h
  obtain ⟨u28, hv, h⟩ := h
  replace hv := q_ob_e hv
  obtain ⟨_, cu28⟩ := hv
  replace h := q_be h
  obtain ⟨v29, hv, h⟩ := h
  refine ⟨⟨some _, rfl⟩, ⟨_, cu28⟩, ?_⟩
  refine rX12_get hv ?_
  refine rX12_mul rfl ?_
  replace h := q_be h
  obtain ⟨u30, hv, h⟩ := h
  replace hv := q_ob_e hv
  obtain ⟨_, cu30⟩ := hv
  replace h := q_be h
  obtain ⟨v31, hv, h⟩ := h
  refine ⟨⟨some _, rfl⟩, ⟨_, cu30⟩, ?_⟩
  refine rX12_maskOf hv ?_
  refine rX12_mul rfl ?_
  refine rX12_mul rfl ?_
  replace h := q_be h
  obtain ⟨v32, hv, h⟩ := h
  replace hv := q_fR_e hv
  obtain ⟨_, cv32, dv32⟩ := hv
  replace h := q_be h
  obtain ⟨a33, ea33, h⟩ := h
  subst ea33
  replace h := q_be h
  obtain ⟨v34, hv, h⟩ := h
  replace hv := q_fR_e hv
  obtain ⟨_, cv34, dv34⟩ := hv
  replace h := q_be h
  obtain ⟨a35, ea35, h⟩ := h
  subst ea35
  replace h := q_be h
  obtain ⟨v36, hv, h⟩ := h
  replace hv := q_aI_e hv
  obtain ⟨_, _, cv36, iv36, yv36⟩ := hv
  replace h := q_be h
  obtain ⟨v37, hv, h⟩ := h
  refine ⟨by decide, ⟨some _, rfl⟩, _, _, cv32, dv32, ⟨some _, rfl⟩, _, _, cv34, dv34, _, _, cv36, iv36, _, yv36, ?_⟩
  refine rX12_over hv ?_
  replace h := q_be h
  obtain ⟨g38, hv, h⟩ := h
  replace hv := q_wI_e hv
  obtain ⟨_, _, cg38, pg38, ig38, yg38⟩ := hv
  refine ⟨_, _, cg38, pg38, ig38, _, yg38, ?_⟩
  refine And.intro (fun hc39 => ?_) (fun hc39 => ?_)
  · replace h := q_ifp (hc39) h
    exact ps_weak (pjX12_layOver_246_40 h hh he) ⟨rfl, rfl, rfl, rfl, rfl, rfl, rfl, rfl, rfl, trivial⟩
  · replace h := q_ifn (hc39) h
    replace h := q_be h
    obtain ⟨v41, hv, h⟩ := h
    replace hv := q_fR_e hv
    obtain ⟨_, cv41, dv41⟩ := hv
    replace h := q_be h
    obtain ⟨a42, ea42, h⟩ := h
    subst ea42
    replace h := q_be h
    obtain ⟨g43, hv, h⟩ := h
    replace hv := q_wI_e hv
    obtain ⟨_, _, cg43, pg43, ig43, yg43⟩ := hv
    refine ⟨⟨some _, rfl⟩, _, _, cv41, dv41, _, _, cg43, pg43, ig43, _, yg43, ?_⟩
    exact ps_weak (pjX12_layOver_246_40 h hh he) ⟨rfl, rfl, rfl, rfl, rfl, rfl, rfl, rfl, rfl, trivial⟩
noncomputable def jX12_layOver_141_40 (g : ps_G) (x0 : Nat) (x1 : Int32) (x2 : Int32) (x3 : Int32) (x4 : Int32) (x6 : Int32) (x7 : Int32) (x8 : Int32) (x9 : Int32) (x10 : Int32) (k0 : Int32) : Option ((Int32 × ps_G) ⊕ (ps_G)) := if x3 = 0 then (jX12_layOver_171_40 g x0 x1 x2 x3 x4 x6 x7 x8 x9 x10 k0 (255 : Int32)) else (if x4 = 0 then (jX12_layOver_171_40 g x0 x1 x2 x3 x4 x6 x7 x8 x9 x10 k0 (0 : Int32)) else (Option.bind (q_fR 12 17 g x0) fun v48 => Option.bind (v48) fun a49 => Option.bind (q_aI g a49 (x2 + x10)) fun v50 => jX12_layOver_171_40 g x0 x1 x2 x3 x4 x6 x7 x8 x9 x10 k0 v50))
theorem pjX12_layOver_141_40 {d : Nat} {Q : ps_Rs → ps_G → Prop} {g : ps_G} {x0 : Nat} {x1 : Int32} {x2 : Int32} {x3 : Int32} {x4 : Int32} {x6 : Int32} {x7 : Int32} {x8 : Int32} {x9 : Int32} {x10 : Int32} {k0 : Int32} {x : (Int32 × ps_G) ⊕ (ps_G)} (h : jX12_layOver_141_40 g x0 x1 x2 x3 x4 x6 x7 x8 x9 x10 k0 = some x) (hh : ∀ s' : Int32 × ps_G, x = .inl s' → ps_At mX12_layOver (d + 4) 40 [(0, .ref x0), (1, .int x1), (2, .int x2), (3, .int x3), (4, .int x4), (6, .int x6), (7, .int x7), (8, .int x8), (9, .int s'.1)] [] s'.2 Q) (he : ∀ r' : ps_G, x = .inr r' → ps_At mX12_layOver (d + 4) 252 [(0, .ref x0), (1, .int x1), (2, .int x2), (3, .int x3), (4, .int x4), (6, .int x6), (7, .int x7), (8, .int x8)] [] r' Q) : ps_At mX12_layOver (d + 4) 141 [(0, .ref x0), (1, .int x1), (2, .int x2), (3, .int x3), (4, .int x4), (6, .int x6), (7, .int x7), (8, .int x8), (9, .int x9), (10, .int x10)] [.int k0] g Q := by
  unfold jX12_layOver_141_40 at h
  refine sX12_layOver_141 ?_
  refine ⟨by decide, ?_⟩
  refine And.intro (fun hc25 => ?_) (fun hc25 => ?_)
  · replace h := q_ifp (hc25) h
    refine sX12_layOver_168 ?_
    exact ps_weak (pjX12_layOver_171_40 h hh he) ⟨rfl, rfl, rfl, rfl, rfl, rfl, rfl, rfl, rfl, rfl, rfl, trivial⟩
  · replace h := q_ifn (hc25) h
    refine And.intro (fun hc46 => ?_) (fun hc46 => ?_)
    · replace h := q_ifp (hc46) h
      refine sX12_layOver_164 ?_
      exact ps_weak (pjX12_layOver_171_40 h hh he) ⟨rfl, rfl, rfl, rfl, rfl, rfl, rfl, rfl, rfl, rfl, rfl, trivial⟩
    · replace h := q_ifn (hc46) h
      replace h := q_be h
      obtain ⟨v48, hv, h⟩ := h
      replace hv := q_fR_e hv
      obtain ⟨_, cv48, dv48⟩ := hv
      replace h := q_be h
      obtain ⟨a49, ea49, h⟩ := h
      subst ea49
      replace h := q_be h
      obtain ⟨v50, hv, h⟩ := h
      replace hv := q_aI_e hv
      obtain ⟨_, _, cv50, iv50, yv50⟩ := hv
      refine ⟨⟨some _, rfl⟩, _, _, cv48, dv48, _, _, cv50, iv50, _, yv50, ?_⟩
      exact ps_weak (pjX12_layOver_171_40 h hh he) ⟨rfl, rfl, rfl, rfl, rfl, rfl, rfl, rfl, rfl, rfl, rfl, trivial⟩
noncomputable def bX12_layOver_40 (x0 : Nat) (x1 : Int32) (x2 : Int32) (x3 : Int32) (x4 : Int32) (x6 : Int32) (x7 : Int32) (x8 : Int32) (x9 : Int32) (g : ps_G) : Option ((Int32 × ps_G) ⊕ (ps_G)) := Option.bind (q_fI 12 13 g x0) fun v9 => if v9 ≤ x9 then (some (.inr g)) else (Option.bind (q_ob 12 g x0) fun u12 => Option.bind (fX12_at g x0 x9 x8) fun v13 => if ¬ x6 = 0 then (if ¬ x6 = (1 : Int32) then (if ¬ x6 = (2 : Int32) then (Option.bind (q_ob 12 g x0) fun u23 => Option.bind (fX12_ramped g x0 x1 x9 x8) fun v24 => jX12_layOver_141_40 g x0 x1 x2 x3 x4 x6 x7 x8 x9 v13 v24) else (Option.bind (q_ob 12 g x0) fun u55 => Option.bind (fX12_get g x0 x1 (11 : Int32)) fun v56 => jX12_layOver_141_40 g x0 x1 x2 x3 x4 x6 x7 x8 x9 v13 v56)) else (Option.bind (q_fR 12 16 g x0) fun v59 => Option.bind (v59) fun a60 => Option.bind (q_aI g a60 (((576 : Int32) * (x1 + (1 : Int32))) + v13)) fun v61 => jX12_layOver_141_40 g x0 x1 x2 x3 x4 x6 x7 x8 x9 v13 v61)) else (Option.bind (q_ob 12 g x0) fun u64 => Option.bind (fX12_get g x0 x1 (8 : Int32)) fun v65 => Option.bind (q_ob 12 g x0) fun u66 => Option.bind (fX12_get g x0 x1 (9 : Int32)) fun v67 => Option.bind (q_ob 12 g x0) fun u68 => Option.bind (fX12_own g x0 x1 (x9 - v65) (x8 - v67)) fun v69 => jX12_layOver_141_40 g x0 x1 x2 x3 x4 x6 x7 x8 x9 v13 v69))
theorem pbX12_layOver_40 {d : Nat} {Q : ps_Rs → ps_G → Prop}  {x0 : Nat} {x1 : Int32} {x2 : Int32} {x3 : Int32} {x4 : Int32} {x6 : Int32} {x7 : Int32} {x8 : Int32} {x9 : Int32} {g : ps_G} {x : (Int32 × ps_G) ⊕ (ps_G)} (h : bX12_layOver_40 x0 x1 x2 x3 x4 x6 x7 x8 x9 g = some x) (hh : ∀ s' : Int32 × ps_G, x = .inl s' → ps_At mX12_layOver (d + 4) 40 [(0, .ref x0), (1, .int x1), (2, .int x2), (3, .int x3), (4, .int x4), (6, .int x6), (7, .int x7), (8, .int x8), (9, .int s'.1)] [] s'.2 Q) (he : ∀ r' : ps_G, x = .inr r' → ps_At mX12_layOver (d + 4) 252 [(0, .ref x0), (1, .int x1), (2, .int x2), (3, .int x3), (4, .int x4), (6, .int x6), (7, .int x7), (8, .int x8)] [] r' Q) : ps_At mX12_layOver (d + 4) 40 [(0, .ref x0), (1, .int x1), (2, .int x2), (3, .int x3), (4, .int x4), (6, .int x6), (7, .int x7), (8, .int x8), (9, .int x9)] [] g Q := by
  unfold bX12_layOver_40 at h
  refine sX12_layOver_40 ?_
  replace h := q_be h
  obtain ⟨v9, hv, h⟩ := h
  replace hv := q_fI_e hv
  obtain ⟨_, cv9, dv9⟩ := hv
  refine ⟨⟨some _, rfl⟩, _, _, cv9, dv9, ?_⟩
  refine And.intro (fun hc10 => ?_) (fun hc10 => ?_)
  · replace h := q_ifp (hc10) h
    exact ps_weak (he g (Option.some.inj h).symm) ⟨rfl, rfl, rfl, rfl, rfl, rfl, rfl, rfl, trivial⟩
  · replace h := q_ifn (hc10) h
    replace h := q_be h
    obtain ⟨u12, hv, h⟩ := h
    replace hv := q_ob_e hv
    obtain ⟨_, cu12⟩ := hv
    replace h := q_be h
    obtain ⟨v13, hv, h⟩ := h
    refine ⟨⟨some _, rfl⟩, ⟨_, cu12⟩, ?_⟩
    refine rX12_at hv ?_
    refine ⟨by decide, ?_⟩
    refine And.intro (fun hc14 => ?_) (fun hc14 => ?_)
    · replace h := q_ifp (hc14) h
      refine sX12_layOver_92 ?_
      refine And.intro (fun hc18 => ?_) (fun hc18 => ?_)
      · replace h := q_ifp (hc18) h
        refine sX12_layOver_116 ?_
        refine And.intro (fun hc21 => ?_) (fun hc21 => ?_)
        · replace h := q_ifp (hc21) h
          refine sX12_layOver_132 ?_
          replace h := q_be h
          obtain ⟨u23, hv, h⟩ := h
          replace hv := q_ob_e hv
          obtain ⟨_, cu23⟩ := hv
          replace h := q_be h
          obtain ⟨v24, hv, h⟩ := h
          refine ⟨⟨some _, rfl⟩, ⟨_, cu23⟩, ?_⟩
          refine rX12_ramped hv ?_
          exact ps_weak (pjX12_layOver_141_40 h hh he) ⟨rfl, rfl, rfl, rfl, rfl, rfl, rfl, rfl, rfl, rfl, trivial⟩
        · replace h := q_ifn (hc21) h
          replace h := q_be h
          obtain ⟨u55, hv, h⟩ := h
          replace hv := q_ob_e hv
          obtain ⟨_, cu55⟩ := hv
          replace h := q_be h
          obtain ⟨v56, hv, h⟩ := h
          refine ⟨⟨some _, rfl⟩, ⟨_, cu55⟩, ?_⟩
          refine rX12_get hv ?_
          exact ps_weak (pjX12_layOver_141_40 h hh he) ⟨rfl, rfl, rfl, rfl, rfl, rfl, rfl, rfl, rfl, rfl, trivial⟩
      · replace h := q_ifn (hc18) h
        replace h := q_be h
        obtain ⟨v59, hv, h⟩ := h
        replace hv := q_fR_e hv
        obtain ⟨_, cv59, dv59⟩ := hv
        replace h := q_be h
        obtain ⟨a60, ea60, h⟩ := h
        subst ea60
        replace h := q_be h
        obtain ⟨v61, hv, h⟩ := h
        replace hv := q_aI_e hv
        obtain ⟨_, _, cv61, iv61, yv61⟩ := hv
        refine ⟨⟨some _, rfl⟩, _, _, cv59, dv59, _, _, cv61, iv61, _, yv61, ?_⟩
        exact ps_weak (pjX12_layOver_141_40 h hh he) ⟨rfl, rfl, rfl, rfl, rfl, rfl, rfl, rfl, rfl, rfl, trivial⟩
    · replace h := q_ifn (hc14) h
      replace h := q_be h
      obtain ⟨u64, hv, h⟩ := h
      replace hv := q_ob_e hv
      obtain ⟨_, cu64⟩ := hv
      replace h := q_be h
      obtain ⟨v65, hv, h⟩ := h
      refine ⟨⟨some _, rfl⟩, ⟨some _, rfl⟩, ⟨_, cu64⟩, ?_⟩
      refine rX12_get hv ?_
      replace h := q_be h
      obtain ⟨u66, hv, h⟩ := h
      replace hv := q_ob_e hv
      obtain ⟨_, cu66⟩ := hv
      replace h := q_be h
      obtain ⟨v67, hv, h⟩ := h
      refine ⟨⟨some _, rfl⟩, ⟨_, cu66⟩, ?_⟩
      refine rX12_get hv ?_
      replace h := q_be h
      obtain ⟨u68, hv, h⟩ := h
      replace hv := q_ob_e hv
      obtain ⟨_, cu68⟩ := hv
      replace h := q_be h
      obtain ⟨v69, hv, h⟩ := h
      refine ⟨⟨_, cu68⟩, ?_⟩
      refine rX12_own hv ?_
      exact ps_weak (pjX12_layOver_141_40 h hh he) ⟨rfl, rfl, rfl, rfl, rfl, rfl, rfl, rfl, rfl, rfl, trivial⟩
noncomputable def bX12_layOver_28 (x0 : Nat) (x1 : Int32) (x2 : Int32) (x3 : Int32) (x4 : Int32) (x6 : Int32) (x7 : Int32) (x8 : Int32) (g : ps_G) : Option ((Int32 × ps_G) ⊕ (ps_G)) := Option.bind (q_fI 12 14 g x0) fun v7 => if v7 ≤ x8 then (some (.inr g)) else (Option.bind (q_lp (fun s => bX12_layOver_40 x0 x1 x2 x3 x4 x6 x7 x8 s.1 s.2) ((0 : Int32), g)) fun s74 => some (.inl (x8 + (1 : Int32), s74)))
theorem pbX12_layOver_28 {d : Nat} {Q : ps_Rs → ps_G → Prop}  {x0 : Nat} {x1 : Int32} {x2 : Int32} {x3 : Int32} {x4 : Int32} {x6 : Int32} {x7 : Int32} {x8 : Int32} {g : ps_G} {x : (Int32 × ps_G) ⊕ (ps_G)} (h : bX12_layOver_28 x0 x1 x2 x3 x4 x6 x7 x8 g = some x) (hh : ∀ s' : Int32 × ps_G, x = .inl s' → ps_At mX12_layOver (d + 4) 28 [(0, .ref x0), (1, .int x1), (2, .int x2), (3, .int x3), (4, .int x4), (6, .int x6), (7, .int x7), (8, .int s'.1)] [] s'.2 Q) (he : ∀ r' : ps_G, x = .inr r' → ps_At mX12_layOver (d + 4) 258 [] [] r' Q) : ps_At mX12_layOver (d + 4) 28 [(0, .ref x0), (1, .int x1), (2, .int x2), (3, .int x3), (4, .int x4), (6, .int x6), (7, .int x7), (8, .int x8)] [] g Q := by
  unfold bX12_layOver_28 at h
  refine sX12_layOver_28 ?_
  replace h := q_be h
  obtain ⟨v7, hv, h⟩ := h
  replace hv := q_fI_e hv
  obtain ⟨_, cv7, dv7⟩ := hv
  refine ⟨⟨some _, rfl⟩, _, _, cv7, dv7, ?_⟩
  refine And.intro (fun hc8 => ?_) (fun hc8 => ?_)
  · replace h := q_ifp (hc8) h
    exact ps_weak (he g (Option.some.inj h).symm) trivial
  · replace h := q_ifn (hc8) h
    refine ⟨by decide, ?_⟩
    replace h := q_be h
    obtain ⟨s74, hl, h⟩ := h
    refine ps_weak (q_lp_ok hl (fun s => ps_At mX12_layOver (d + 4) 40 [(0, .ref x0), (1, .int x1), (2, .int x2), (3, .int x3), (4, .int x4), (6, .int x6), (7, .int x7), (8, .int x8), (9, .int s.1)] [] s.2 Q) (fun r => ps_At mX12_layOver (d + 4) 252 [(0, .ref x0), (1, .int x1), (2, .int x2), (3, .int x3), (4, .int x4), (6, .int x6), (7, .int x7), (8, .int x8)] [] r Q) (fun s x hb hh he => pbX12_layOver_40 hb hh he) ?_) ⟨rfl, rfl, rfl, rfl, rfl, rfl, rfl, rfl, rfl, trivial⟩
    refine (?_ : ps_At mX12_layOver (d + 4) 252 [(0, .ref x0), (1, .int x1), (2, .int x2), (3, .int x3), (4, .int x4), (6, .int x6), (7, .int x7), (8, .int x8)] [] s74 Q)
    refine sX12_layOver_252 ?_
    refine ⟨by decide, ?_⟩
    exact ps_weak (hh (x8 + (1 : Int32), s74) (Option.some.inj h).symm) ⟨rfl, rfl, rfl, rfl, rfl, rfl, rfl, rfl, trivial⟩
noncomputable def jX12_layOver_23 (g : ps_G) (x0 : Nat) (x1 : Int32) (x2 : Int32) (x3 : Int32) (x4 : Int32) (x6 : Int32) (k0 : Int32) : Option (ps_G) := Option.bind (q_lp (fun s => bX12_layOver_28 x0 x1 x2 x3 x4 x6 k0 s.1 s.2) ((0 : Int32), g)) fun s77 => some s77
theorem pjX12_layOver_23 {d : Nat} {Q : ps_Rs → ps_G → Prop} {g : ps_G} {x0 : Nat} {x1 : Int32} {x2 : Int32} {x3 : Int32} {x4 : Int32} {x6 : Int32} {k0 : Int32} {r : ps_G} (h : jX12_layOver_23 g x0 x1 x2 x3 x4 x6 k0 = some r) (hk : Q (.inl none) r) : ps_At mX12_layOver (d + 4) 23 [(0, .ref x0), (1, .int x1), (2, .int x2), (3, .int x3), (4, .int x4), (6, .int x6)] [.int k0] g Q := by
  unfold jX12_layOver_23 at h
  refine sX12_layOver_23 ?_
  refine ⟨by decide, by decide, ?_⟩
  replace h := q_be h
  obtain ⟨s77, hl, h⟩ := h
  refine ps_weak (q_lp_ok hl (fun s => ps_At mX12_layOver (d + 4) 28 [(0, .ref x0), (1, .int x1), (2, .int x2), (3, .int x3), (4, .int x4), (6, .int x6), (7, .int k0), (8, .int s.1)] [] s.2 Q) (fun r => ps_At mX12_layOver (d + 4) 258 [] [] r Q) (fun s x hb hh he => pbX12_layOver_28 hb hh he) ?_) ⟨rfl, rfl, rfl, rfl, rfl, rfl, rfl, rfl, trivial⟩
  refine (?_ : ps_At mX12_layOver (d + 4) 258 [] [] s77 Q)
  refine sX12_layOver_258 ?_
  cases h
  exact ⟨rfl, rfl, hk⟩
noncomputable def fX12_layOver (g : ps_G) (x0 : Nat) (x1 : Int32) (x2 : Int32) (x3 : Int32) (x4 : Int32) (x5 : Int32) : Option (ps_G) := Option.bind (q_ob 12 g x0) fun u1 => Option.bind (fX12_get g x0 x1 (1 : Int32)) fun v2 => if x5 = 0 then (Option.bind (q_ob 12 g x0) fun u5 => Option.bind (fX12_get g x0 x1 (5 : Int32)) fun v6 => jX12_layOver_23 g x0 x1 x2 x3 x4 v2 v6) else (jX12_layOver_23 g x0 x1 x2 x3 x4 v2 (0 : Int32))
theorem rX12_layOver {d : Nat} {Q : ps_Rs → ps_G → Prop} {g : ps_G} {x0 : Nat} {x1 : Int32} {x2 : Int32} {x3 : Int32} {x4 : Int32} {x5 : Int32} {r : ps_G} (h : fX12_layOver g x0 x1 x2 x3 x4 x5 = some r) (hk : Q (.inl none) r) : ps_Ok mX12_layOver (d + 4) [.ref x0, .int x1, .int x2, .int x3, .int x4, .int x5] g Q := by
  unfold fX12_layOver at h
  refine sX12_layOver_0 ?_
  replace h := q_be h
  obtain ⟨u1, hv, h⟩ := h
  replace hv := q_ob_e hv
  obtain ⟨_, cu1⟩ := hv
  replace h := q_be h
  obtain ⟨v2, hv, h⟩ := h
  refine ⟨⟨some _, rfl⟩, ⟨_, cu1⟩, ?_⟩
  refine rX12_get hv ?_
  refine ⟨by decide, ?_⟩
  refine And.intro (fun hc3 => ?_) (fun hc3 => ?_)
  · replace h := q_ifp (hc3) h
    refine sX12_layOver_17 ?_
    replace h := q_be h
    obtain ⟨u5, hv, h⟩ := h
    replace hv := q_ob_e hv
    obtain ⟨_, cu5⟩ := hv
    replace h := q_be h
    obtain ⟨v6, hv, h⟩ := h
    refine ⟨⟨some _, rfl⟩, ⟨_, cu5⟩, ?_⟩
    refine rX12_get hv ?_
    exact ps_weak (pjX12_layOver_23 h hk) ⟨rfl, rfl, rfl, rfl, rfl, rfl, trivial⟩
  · replace h := q_ifn (hc3) h
    exact ps_weak (pjX12_layOver_23 h hk) ⟨rfl, rfl, rfl, rfl, rfl, rfl, trivial⟩
noncomputable def bX12_compose_23 (x0 : Nat) (x1 : Int32) (x2 : Int32) (x3 : Int32) (x4 : Int32) (x5 : Int32) (x6 : Int32) (g : ps_G) : Option ((Int32 × ps_G) ⊕ (ps_G)) := if x5 ≤ x6 then (some (.inr g)) else (Option.bind (q_fR 12 16 g x0) fun v5 => Option.bind (v5) fun a6 => Option.bind (q_wI g a6 (x4 + x6) (0 : Int32)) fun g7 => some (.inl (x6 + (1 : Int32), g7)))
theorem pbX12_compose_23 {d : Nat} {Q : ps_Rs → ps_G → Prop}  {x0 : Nat} {x1 : Int32} {x2 : Int32} {x3 : Int32} {x4 : Int32} {x5 : Int32} {x6 : Int32} {g : ps_G} {x : (Int32 × ps_G) ⊕ (ps_G)} (h : bX12_compose_23 x0 x1 x2 x3 x4 x5 x6 g = some x) (hh : ∀ s' : Int32 × ps_G, x = .inl s' → ps_At mX12_compose (d + 6) 23 [(0, .ref x0), (1, .int x1), (2, .int x2), (3, .int x3), (4, .int x4), (5, .int x5), (6, .int s'.1)] [] s'.2 Q) (he : ∀ r' : ps_G, x = .inr r' → ps_At mX12_compose (d + 6) 47 [(0, .ref x0), (1, .int x1), (2, .int x2), (3, .int x3), (4, .int x4), (5, .int x5)] [] r' Q) : ps_At mX12_compose (d + 6) 23 [(0, .ref x0), (1, .int x1), (2, .int x2), (3, .int x3), (4, .int x4), (5, .int x5), (6, .int x6)] [] g Q := by
  unfold bX12_compose_23 at h
  refine sX12_compose_23 ?_
  refine And.intro (fun hc3 => ?_) (fun hc3 => ?_)
  · replace h := q_ifp (hc3) h
    exact ps_weak (he g (Option.some.inj h).symm) ⟨rfl, rfl, rfl, rfl, rfl, rfl, trivial⟩
  · replace h := q_ifn (hc3) h
    replace h := q_be h
    obtain ⟨v5, hv, h⟩ := h
    replace hv := q_fR_e hv
    obtain ⟨_, cv5, dv5⟩ := hv
    replace h := q_be h
    obtain ⟨a6, ea6, h⟩ := h
    subst ea6
    replace h := q_be h
    obtain ⟨g7, hv, h⟩ := h
    replace hv := q_wI_e hv
    obtain ⟨_, _, cg7, pg7, ig7, yg7⟩ := hv
    refine ⟨⟨some _, rfl⟩, _, _, cv5, dv5, _, _, cg7, pg7, ig7, _, yg7, by decide, ?_⟩
    exact ps_weak (hh (x6 + (1 : Int32), g7) (Option.some.inj h).symm) ⟨rfl, rfl, rfl, rfl, rfl, rfl, rfl, trivial⟩
noncomputable def jX12_compose_213_60 (g : ps_G) (x0 : Nat) (x1 : Int32) (x2 : Int32) (x3 : Int32) (x4 : Int32) (x5 : Int32) (x6 : Int32) (x7 : Int32) (x8 : Int32) : Option ((Int32 × Int32 × ps_G) ⊕ (ps_G)) := some (.inl (x6, x8 + (1 : Int32), g))
theorem pjX12_compose_213_60 {d : Nat} {Q : ps_Rs → ps_G → Prop} {g : ps_G} {x0 : Nat} {x1 : Int32} {x2 : Int32} {x3 : Int32} {x4 : Int32} {x5 : Int32} {x6 : Int32} {x7 : Int32} {x8 : Int32} {x : (Int32 × Int32 × ps_G) ⊕ (ps_G)} (h : jX12_compose_213_60 g x0 x1 x2 x3 x4 x5 x6 x7 x8 = some x) (hh : ∀ s' : Int32 × Int32 × ps_G, x = .inl s' → ps_At mX12_compose (d + 6) 60 [(0, .ref x0), (1, .int x1), (2, .int x2), (3, .int x3), (4, .int x4), (5, .int x5), (6, .int s'.1), (7, .int x7), (8, .int s'.2.1)] [] s'.2.2 Q) (he : ∀ r' : ps_G, x = .inr r' → ps_At mX12_compose (d + 6) 219 [] [] r' Q) : ps_At mX12_compose (d + 6) 213 [(0, .ref x0), (1, .int x1), (2, .int x2), (3, .int x3), (4, .int x4), (5, .int x5), (6, .int x6), (7, .int x7), (8, .int x8)] [] g Q := by
  unfold jX12_compose_213_60 at h
  refine sX12_compose_213 ?_
  refine ⟨by decide, ?_⟩
  exact ps_weak (hh (x6, x8 + (1 : Int32), g) (Option.some.inj h).symm) ⟨rfl, rfl, rfl, rfl, rfl, rfl, rfl, rfl, rfl, trivial⟩
noncomputable def jX12_compose_195_60 (g : ps_G) (x0 : Nat) (x1 : Int32) (x2 : Int32) (x3 : Int32) (x4 : Int32) (x5 : Int32) (x6 : Int32) (x7 : Int32) (x8 : Int32) (x10 : Int32) (x11 : Int32) : Option ((Int32 × Int32 × ps_G) ⊕ (ps_G)) := jX12_compose_213_60 g x0 x1 x2 x3 x4 x5 (if ¬ x10 = 0 then x6 else (if (4 : Int32) ≤ x11 then (0 : Int32) else (1 : Int32))) x7 x8
theorem pjX12_compose_195_60 {d : Nat} {Q : ps_Rs → ps_G → Prop} {g : ps_G} {x0 : Nat} {x1 : Int32} {x2 : Int32} {x3 : Int32} {x4 : Int32} {x5 : Int32} {x6 : Int32} {x7 : Int32} {x8 : Int32} {x10 : Int32} {x11 : Int32} {x : (Int32 × Int32 × ps_G) ⊕ (ps_G)} (h : jX12_compose_195_60 g x0 x1 x2 x3 x4 x5 x6 x7 x8 x10 x11 = some x) (hh : ∀ s' : Int32 × Int32 × ps_G, x = .inl s' → ps_At mX12_compose (d + 6) 60 [(0, .ref x0), (1, .int x1), (2, .int x2), (3, .int x3), (4, .int x4), (5, .int x5), (6, .int s'.1), (7, .int x7), (8, .int s'.2.1)] [] s'.2.2 Q) (he : ∀ r' : ps_G, x = .inr r' → ps_At mX12_compose (d + 6) 219 [] [] r' Q) : ps_At mX12_compose (d + 6) 195 [(0, .ref x0), (1, .int x1), (2, .int x2), (3, .int x3), (4, .int x4), (5, .int x5), (6, .int x6), (7, .int x7), (8, .int x8), (10, .int x10), (11, .int x11)] [] g Q := by
  unfold jX12_compose_195_60 at h
  refine sX12_compose_195 ?_
  have kJ28 : ∀ w27 : Int32, w27 = (if ¬ x10 = 0 then x6 else (if (4 : Int32) ≤ x11 then (0 : Int32) else (1 : Int32))) → ps_At mX12_compose (d + 6) 213 [(0, .ref x0), (1, .int x1), (2, .int x2), (3, .int x3), (4, .int x4), (5, .int x5), (6, .int w27), (7, .int x7), (8, .int x8)] [] g Q := by
    rintro _ rfl
    exact ps_weak (pjX12_compose_213_60 h hh he) ⟨rfl, rfl, rfl, rfl, rfl, rfl, rfl, rfl, rfl, trivial⟩
  refine And.intro (fun hc26 => ?_) (fun hc26 => ?_)
  · exact ps_weak (kJ28 _ (if_pos (hc26)).symm) ⟨rfl, rfl, rfl, rfl, rfl, rfl, rfl, rfl, rfl, trivial⟩
  · have kJ31 : ∀ w30 : Int32, w30 = (if (4 : Int32) ≤ x11 then (0 : Int32) else (1 : Int32)) → ps_At mX12_compose (d + 6) 211 [(0, .ref x0), (1, .int x1), (2, .int x2), (3, .int x3), (4, .int x4), (5, .int x5), (7, .int x7), (8, .int x8)] [.int w30] g Q := by
      rintro _ rfl
      refine sX12_compose_211 ?_
      refine ⟨by decide, ?_⟩
      exact ps_weak (kJ28 _ (if_neg (hc26)).symm) ⟨rfl, rfl, rfl, rfl, rfl, rfl, rfl, rfl, rfl, trivial⟩
    refine And.intro (fun hc29 => ?_) (fun hc29 => ?_)
    · refine sX12_compose_210 ?_
      exact ps_weak (kJ31 _ (if_pos (hc29)).symm) ⟨rfl, rfl, rfl, rfl, rfl, rfl, rfl, rfl, trivial⟩
    · exact ps_weak (kJ31 _ (if_neg (hc29)).symm) ⟨rfl, rfl, rfl, rfl, rfl, rfl, rfl, rfl, trivial⟩
noncomputable def jX12_compose_159_60 (g : ps_G) (x0 : Nat) (x1 : Int32) (x2 : Int32) (x3 : Int32) (x4 : Int32) (x5 : Int32) (x6 : Int32) (x7 : Int32) (x8 : Int32) (x9 : Int32) (x10 : Int32) (x11 : Int32) : Option ((Int32 × Int32 × ps_G) ⊕ (ps_G)) := if x11 ≤ (3 : Int32) then (Option.bind (q_ob 12 g x0) fun u24 => Option.bind (fX12_layOver g x0 x9 x4 x10 x6 x3) fun v25 => jX12_compose_195_60 v25 x0 x1 x2 x3 x4 x5 x6 x7 x8 x10 x11) else (Option.bind (q_ob 12 g x0) fun u32 => Option.bind (fX12_lay g x0 x9 x4 x5 x10 x6) fun v33 => jX12_compose_195_60 v33 x0 x1 x2 x3 x4 x5 x6 x7 x8 x10 x11)
theorem pjX12_compose_159_60 {d : Nat} {Q : ps_Rs → ps_G → Prop} {g : ps_G} {x0 : Nat} {x1 : Int32} {x2 : Int32} {x3 : Int32} {x4 : Int32} {x5 : Int32} {x6 : Int32} {x7 : Int32} {x8 : Int32} {x9 : Int32} {x10 : Int32} {x11 : Int32} {x : (Int32 × Int32 × ps_G) ⊕ (ps_G)} (h : jX12_compose_159_60 g x0 x1 x2 x3 x4 x5 x6 x7 x8 x9 x10 x11 = some x) (hh : ∀ s' : Int32 × Int32 × ps_G, x = .inl s' → ps_At mX12_compose (d + 6) 60 [(0, .ref x0), (1, .int x1), (2, .int x2), (3, .int x3), (4, .int x4), (5, .int x5), (6, .int s'.1), (7, .int x7), (8, .int s'.2.1)] [] s'.2.2 Q) (he : ∀ r' : ps_G, x = .inr r' → ps_At mX12_compose (d + 6) 219 [] [] r' Q) : ps_At mX12_compose (d + 6) 159 [(0, .ref x0), (1, .int x1), (2, .int x2), (3, .int x3), (4, .int x4), (5, .int x5), (6, .int x6), (7, .int x7), (8, .int x8), (9, .int x9), (10, .int x10), (11, .int x11)] [] g Q := by
  unfold jX12_compose_159_60 at h
  refine sX12_compose_159 ?_
  refine And.intro (fun hc22 => ?_) (fun hc22 => ?_)
  · replace h := q_ifp (hc22) h
    refine sX12_compose_182 ?_
    replace h := q_be h
    obtain ⟨u24, hv, h⟩ := h
    replace hv := q_ob_e hv
    obtain ⟨_, cu24⟩ := hv
    replace h := q_be h
    obtain ⟨v25, hv, h⟩ := h
    refine ⟨⟨some _, rfl⟩, ⟨_, cu24⟩, ?_⟩
    refine rX12_layOver hv ?_
    exact ps_weak (pjX12_compose_195_60 h hh he) ⟨rfl, rfl, rfl, rfl, rfl, rfl, rfl, rfl, rfl, rfl, rfl, trivial⟩
  · replace h := q_ifn (hc22) h
    replace h := q_be h
    obtain ⟨u32, hv, h⟩ := h
    replace hv := q_ob_e hv
    obtain ⟨_, cu32⟩ := hv
    replace h := q_be h
    obtain ⟨v33, hv, h⟩ := h
    refine ⟨⟨some _, rfl⟩, ⟨_, cu32⟩, ?_⟩
    refine rX12_lay hv ?_
    exact ps_weak (pjX12_compose_195_60 h hh he) ⟨rfl, rfl, rfl, rfl, rfl, rfl, rfl, rfl, rfl, rfl, rfl, trivial⟩
noncomputable def jX12_compose_122_60 (g : ps_G) (x0 : Nat) (x1 : Int32) (x2 : Int32) (x3 : Int32) (x4 : Int32) (x5 : Int32) (x6 : Int32) (x7 : Int32) (x8 : Int32) (x9 : Int32) (k0 : Int32) : Option ((Int32 × Int32 × ps_G) ⊕ (ps_G)) := Option.bind (q_ob 12 g x0) fun u19 => Option.bind (fX12_get g x0 x9 (1 : Int32)) fun v20 => if ¬ x2 = 0 then (jX12_compose_159_60 g x0 x1 x2 x3 x4 x5 x6 x7 x8 x9 k0 v20) else (Option.bind (q_ob 12 g x0) fun u36 => Option.bind (fX12_get g x0 x9 (6 : Int32)) fun v37 => if ¬ v37 = 0 then (jX12_compose_159_60 g x0 x1 x2 x3 x4 x5 x6 x7 x8 x9 k0 v20) else (jX12_compose_213_60 g x0 x1 x2 x3 x4 x5 (if ¬ k0 = 0 then x6 else (0 : Int32)) x7 x8))
theorem pjX12_compose_122_60 {d : Nat} {Q : ps_Rs → ps_G → Prop} {g : ps_G} {x0 : Nat} {x1 : Int32} {x2 : Int32} {x3 : Int32} {x4 : Int32} {x5 : Int32} {x6 : Int32} {x7 : Int32} {x8 : Int32} {x9 : Int32} {k0 : Int32} {x : (Int32 × Int32 × ps_G) ⊕ (ps_G)} (h : jX12_compose_122_60 g x0 x1 x2 x3 x4 x5 x6 x7 x8 x9 k0 = some x) (hh : ∀ s' : Int32 × Int32 × ps_G, x = .inl s' → ps_At mX12_compose (d + 6) 60 [(0, .ref x0), (1, .int x1), (2, .int x2), (3, .int x3), (4, .int x4), (5, .int x5), (6, .int s'.1), (7, .int x7), (8, .int s'.2.1)] [] s'.2.2 Q) (he : ∀ r' : ps_G, x = .inr r' → ps_At mX12_compose (d + 6) 219 [] [] r' Q) : ps_At mX12_compose (d + 6) 122 [(0, .ref x0), (1, .int x1), (2, .int x2), (3, .int x3), (4, .int x4), (5, .int x5), (6, .int x6), (7, .int x7), (8, .int x8), (9, .int x9)] [.int k0] g Q := by
  unfold jX12_compose_122_60 at h
  refine sX12_compose_122 ?_
  replace h := q_be h
  obtain ⟨u19, hv, h⟩ := h
  replace hv := q_ob_e hv
  obtain ⟨_, cu19⟩ := hv
  replace h := q_be h
  obtain ⟨v20, hv, h⟩ := h
  refine ⟨by decide, ⟨some _, rfl⟩, ⟨_, cu19⟩, ?_⟩
  refine rX12_get hv ?_
  refine ⟨by decide, ?_⟩
  refine And.intro (fun hc21 => ?_) (fun hc21 => ?_)
  · replace h := q_ifp (hc21) h
    exact ps_weak (pjX12_compose_159_60 h hh he) ⟨rfl, rfl, rfl, rfl, rfl, rfl, rfl, rfl, rfl, rfl, rfl, rfl, trivial⟩
  · replace h := q_ifn (hc21) h
    replace h := q_be h
    obtain ⟨u36, hv, h⟩ := h
    replace hv := q_ob_e hv
    obtain ⟨_, cu36⟩ := hv
    replace h := q_be h
    obtain ⟨v37, hv, h⟩ := h
    refine ⟨⟨some _, rfl⟩, ⟨_, cu36⟩, ?_⟩
    refine rX12_get hv ?_
    refine And.intro (fun hc38 => ?_) (fun hc38 => ?_)
    · replace h := q_ifp (hc38) h
      exact ps_weak (pjX12_compose_159_60 h hh he) ⟨rfl, rfl, rfl, rfl, rfl, rfl, rfl, rfl, rfl, rfl, rfl, rfl, trivial⟩
    · replace h := q_ifn (hc38) h
      have kJ41 : ∀ w40 : Int32, w40 = (if ¬ k0 = 0 then x6 else (0 : Int32)) → ps_At mX12_compose (d + 6) 213 [(0, .ref x0), (1, .int x1), (2, .int x2), (3, .int x3), (4, .int x4), (5, .int x5), (6, .int w40), (7, .int x7), (8, .int x8)] [] g Q := by
        rintro _ rfl
        exact ps_weak (pjX12_compose_213_60 h hh he) ⟨rfl, rfl, rfl, rfl, rfl, rfl, rfl, rfl, rfl, trivial⟩
      refine And.intro (fun hc39 => ?_) (fun hc39 => ?_)
      · exact ps_weak (kJ41 _ (if_pos (hc39)).symm) ⟨rfl, rfl, rfl, rfl, rfl, rfl, rfl, rfl, rfl, trivial⟩
      · refine ⟨by decide, ?_⟩
        exact ps_weak (kJ41 _ (if_neg (hc39)).symm) ⟨rfl, rfl, rfl, rfl, rfl, rfl, rfl, rfl, rfl, trivial⟩
noncomputable def jX12_compose_121_60 (g : ps_G) (x0 : Nat) (x1 : Int32) (x2 : Int32) (x3 : Int32) (x4 : Int32) (x5 : Int32) (x6 : Int32) (x7 : Int32) (x8 : Int32) (x9 : Int32) : Option ((Int32 × Int32 × ps_G) ⊕ (ps_G)) := jX12_compose_122_60 g x0 x1 x2 x3 x4 x5 x6 x7 x8 x9 (0 : Int32)
theorem pjX12_compose_121_60 {d : Nat} {Q : ps_Rs → ps_G → Prop} {g : ps_G} {x0 : Nat} {x1 : Int32} {x2 : Int32} {x3 : Int32} {x4 : Int32} {x5 : Int32} {x6 : Int32} {x7 : Int32} {x8 : Int32} {x9 : Int32} {x : (Int32 × Int32 × ps_G) ⊕ (ps_G)} (h : jX12_compose_121_60 g x0 x1 x2 x3 x4 x5 x6 x7 x8 x9 = some x) (hh : ∀ s' : Int32 × Int32 × ps_G, x = .inl s' → ps_At mX12_compose (d + 6) 60 [(0, .ref x0), (1, .int x1), (2, .int x2), (3, .int x3), (4, .int x4), (5, .int x5), (6, .int s'.1), (7, .int x7), (8, .int s'.2.1)] [] s'.2.2 Q) (he : ∀ r' : ps_G, x = .inr r' → ps_At mX12_compose (d + 6) 219 [] [] r' Q) : ps_At mX12_compose (d + 6) 121 [(0, .ref x0), (1, .int x1), (2, .int x2), (3, .int x3), (4, .int x4), (5, .int x5), (6, .int x6), (7, .int x7), (8, .int x8), (9, .int x9)] [] g Q := by
  unfold jX12_compose_121_60 at h
  refine sX12_compose_121 ?_
  exact ps_weak (pjX12_compose_122_60 h hh he) ⟨rfl, rfl, rfl, rfl, rfl, rfl, rfl, rfl, rfl, rfl, trivial⟩
noncomputable def jX12_compose_101_60 (g : ps_G) (x0 : Nat) (x1 : Int32) (x2 : Int32) (x3 : Int32) (x4 : Int32) (x5 : Int32) (x6 : Int32) (x7 : Int32) (x8 : Int32) (x9 : Int32) : Option ((Int32 × Int32 × ps_G) ⊕ (ps_G)) := if ¬ x3 = 0 then (jX12_compose_121_60 g x0 x1 x2 x3 x4 x5 x6 x7 x8 x9) else (Option.bind (q_ob 12 g x0) fun u46 => Option.bind (fX12_get g x0 x9 (7 : Int32)) fun v47 => if ¬ v47 = (1 : Int32) then (jX12_compose_121_60 g x0 x1 x2 x3 x4 x5 x6 x7 x8 x9) else (jX12_compose_122_60 g x0 x1 x2 x3 x4 x5 x6 x7 x8 x9 (1 : Int32)))
theorem pjX12_compose_101_60 {d : Nat} {Q : ps_Rs → ps_G → Prop} {g : ps_G} {x0 : Nat} {x1 : Int32} {x2 : Int32} {x3 : Int32} {x4 : Int32} {x5 : Int32} {x6 : Int32} {x7 : Int32} {x8 : Int32} {x9 : Int32} {x : (Int32 × Int32 × ps_G) ⊕ (ps_G)} (h : jX12_compose_101_60 g x0 x1 x2 x3 x4 x5 x6 x7 x8 x9 = some x) (hh : ∀ s' : Int32 × Int32 × ps_G, x = .inl s' → ps_At mX12_compose (d + 6) 60 [(0, .ref x0), (1, .int x1), (2, .int x2), (3, .int x3), (4, .int x4), (5, .int x5), (6, .int s'.1), (7, .int x7), (8, .int s'.2.1)] [] s'.2.2 Q) (he : ∀ r' : ps_G, x = .inr r' → ps_At mX12_compose (d + 6) 219 [] [] r' Q) : ps_At mX12_compose (d + 6) 101 [(0, .ref x0), (1, .int x1), (2, .int x2), (3, .int x3), (4, .int x4), (5, .int x5), (6, .int x6), (7, .int x7), (8, .int x8), (9, .int x9)] [] g Q := by
  unfold jX12_compose_101_60 at h
  refine sX12_compose_101 ?_
  refine And.intro (fun hc18 => ?_) (fun hc18 => ?_)
  · replace h := q_ifp (hc18) h
    exact ps_weak (pjX12_compose_121_60 h hh he) ⟨rfl, rfl, rfl, rfl, rfl, rfl, rfl, rfl, rfl, rfl, trivial⟩
  · replace h := q_ifn (hc18) h
    replace h := q_be h
    obtain ⟨u46, hv, h⟩ := h
    replace hv := q_ob_e hv
    obtain ⟨_, cu46⟩ := hv
    replace h := q_be h
    obtain ⟨v47, hv, h⟩ := h
    refine ⟨⟨some _, rfl⟩, ⟨_, cu46⟩, ?_⟩
    refine rX12_get hv ?_
    refine And.intro (fun hc48 => ?_) (fun hc48 => ?_)
    · replace h := q_ifp (hc48) h
      exact ps_weak (pjX12_compose_121_60 h hh he) ⟨rfl, rfl, rfl, rfl, rfl, rfl, rfl, rfl, rfl, rfl, trivial⟩
    · replace h := q_ifn (hc48) h
      exact ps_weak (pjX12_compose_122_60 h hh he) ⟨rfl, rfl, rfl, rfl, rfl, rfl, rfl, rfl, rfl, rfl, trivial⟩
noncomputable def bX12_compose_60 (x0 : Nat) (x1 : Int32) (x2 : Int32) (x3 : Int32) (x4 : Int32) (x5 : Int32) (x7 : Int32) (x6 : Int32) (x8 : Int32) (g : ps_G) : Option ((Int32 × Int32 × ps_G) ⊕ (ps_G)) := if x7 ≤ x8 then (some (.inr g)) else (Option.bind (q_ob 12 g x0) fun u15 => Option.bind (fX12_child g x0 x1 x8) fun v16 => if x2 = 0 then (jX12_compose_101_60 g x0 x1 x2 x3 x4 x5 x6 x7 x8 v16) else (Option.bind (q_fI 12 19 g x0) fun v53 => if v16 = v53 then (jX12_compose_101_60 g x0 x1 x2 x3 x4 x5 x6 x7 x8 v16) else (Option.bind (q_fI 12 20 g x0) fun v55 => if v16 = v55 then (jX12_compose_101_60 g x0 x1 x2 x3 x4 x5 x6 x7 x8 v16) else (jX12_compose_213_60 g x0 x1 x2 x3 x4 x5 x6 x7 x8))))
theorem pbX12_compose_60 {d : Nat} {Q : ps_Rs → ps_G → Prop}  {x0 : Nat} {x1 : Int32} {x2 : Int32} {x3 : Int32} {x4 : Int32} {x5 : Int32} {x7 : Int32} {x6 : Int32} {x8 : Int32} {g : ps_G} {x : (Int32 × Int32 × ps_G) ⊕ (ps_G)} (h : bX12_compose_60 x0 x1 x2 x3 x4 x5 x7 x6 x8 g = some x) (hh : ∀ s' : Int32 × Int32 × ps_G, x = .inl s' → ps_At mX12_compose (d + 6) 60 [(0, .ref x0), (1, .int x1), (2, .int x2), (3, .int x3), (4, .int x4), (5, .int x5), (6, .int s'.1), (7, .int x7), (8, .int s'.2.1)] [] s'.2.2 Q) (he : ∀ r' : ps_G, x = .inr r' → ps_At mX12_compose (d + 6) 219 [] [] r' Q) : ps_At mX12_compose (d + 6) 60 [(0, .ref x0), (1, .int x1), (2, .int x2), (3, .int x3), (4, .int x4), (5, .int x5), (6, .int x6), (7, .int x7), (8, .int x8)] [] g Q := by
  unfold bX12_compose_60 at h
  refine sX12_compose_60 ?_
  refine And.intro (fun hc13 => ?_) (fun hc13 => ?_)
  · replace h := q_ifp (hc13) h
    exact ps_weak (he g (Option.some.inj h).symm) trivial
  · replace h := q_ifn (hc13) h
    replace h := q_be h
    obtain ⟨u15, hv, h⟩ := h
    replace hv := q_ob_e hv
    obtain ⟨_, cu15⟩ := hv
    replace h := q_be h
    obtain ⟨v16, hv, h⟩ := h
    refine ⟨⟨some _, rfl⟩, ⟨_, cu15⟩, ?_⟩
    refine rX12_child hv ?_
    refine ⟨by decide, ?_⟩
    refine And.intro (fun hc17 => ?_) (fun hc17 => ?_)
    · replace h := q_ifp (hc17) h
      exact ps_weak (pjX12_compose_101_60 h hh he) ⟨rfl, rfl, rfl, rfl, rfl, rfl, rfl, rfl, rfl, rfl, trivial⟩
    · replace h := q_ifn (hc17) h
      replace h := q_be h
      obtain ⟨v53, hv, h⟩ := h
      replace hv := q_fI_e hv
      obtain ⟨_, cv53, dv53⟩ := hv
      refine ⟨⟨some _, rfl⟩, _, _, cv53, dv53, ?_⟩
      refine And.intro (fun hc54 => ?_) (fun hc54 => ?_)
      · replace h := q_ifp (hc54) h
        exact ps_weak (pjX12_compose_101_60 h hh he) ⟨rfl, rfl, rfl, rfl, rfl, rfl, rfl, rfl, rfl, rfl, trivial⟩
      · replace h := q_ifn (hc54) h
        replace h := q_be h
        obtain ⟨v55, hv, h⟩ := h
        replace hv := q_fI_e hv
        obtain ⟨_, cv55, dv55⟩ := hv
        refine ⟨⟨some _, rfl⟩, _, _, cv55, dv55, ?_⟩
        refine And.intro (fun hc56 => ?_) (fun hc56 => ?_)
        · replace h := q_ifp (hc56) h
          exact ps_weak (pjX12_compose_101_60 h hh he) ⟨rfl, rfl, rfl, rfl, rfl, rfl, rfl, rfl, rfl, rfl, trivial⟩
        · replace h := q_ifn (hc56) h
          exact ps_weak (pjX12_compose_213_60 h hh he) ⟨rfl, rfl, rfl, rfl, rfl, rfl, rfl, rfl, rfl, trivial⟩
noncomputable def fX12_compose (g : ps_G) (x0 : Nat) (x1 : Int32) (x2 : Int32) (x3 : Int32) : Option (ps_G) := Option.bind (q_fI 12 13 g x0) fun v1 => Option.bind (q_fI 12 14 g x0) fun v2 => Option.bind (q_lp (fun s => bX12_compose_23 x0 x1 x2 x3 ((576 : Int32) * (x1 + (1 : Int32))) (v1 * v2) s.1 s.2) ((0 : Int32), g)) fun s10 => Option.bind (q_ob 12 s10 x0) fun u11 => Option.bind (fX12_many s10 x0 x1) fun v12 => Option.bind (q_lp (fun s => bX12_compose_60 x0 x1 x2 x3 ((576 : Int32) * (x1 + (1 : Int32))) (v1 * v2) v12 s.1 s.2.1 s.2.2) ((0 : Int32), (0 : Int32), s10)) fun s65 => some s65
theorem rX12_compose {d : Nat} {Q : ps_Rs → ps_G → Prop} {g : ps_G} {x0 : Nat} {x1 : Int32} {x2 : Int32} {x3 : Int32} {r : ps_G} (h : fX12_compose g x0 x1 x2 x3 = some r) (hk : Q (.inl none) r) : ps_Ok mX12_compose (d + 6) [.ref x0, .int x1, .int x2, .int x3] g Q := by
  unfold fX12_compose at h
  refine sX12_compose_0 ?_
  replace h := q_be h
  obtain ⟨v1, hv, h⟩ := h
  replace hv := q_fI_e hv
  obtain ⟨_, cv1, dv1⟩ := hv
  replace h := q_be h
  obtain ⟨v2, hv, h⟩ := h
  replace hv := q_fI_e hv
  obtain ⟨_, cv2, dv2⟩ := hv
  refine ⟨by decide, ⟨some _, rfl⟩, _, _, cv1, dv1, ⟨some _, rfl⟩, _, _, cv2, dv2, by decide, by decide, ?_⟩
  replace h := q_be h
  obtain ⟨s10, hl, h⟩ := h
  refine ps_weak (q_lp_ok hl (fun s => ps_At mX12_compose (d + 6) 23 [(0, .ref x0), (1, .int x1), (2, .int x2), (3, .int x3), (4, .int ((576 : Int32) * (x1 + (1 : Int32)))), (5, .int (v1 * v2)), (6, .int s.1)] [] s.2 Q) (fun r => ps_At mX12_compose (d + 6) 47 [(0, .ref x0), (1, .int x1), (2, .int x2), (3, .int x3), (4, .int ((576 : Int32) * (x1 + (1 : Int32)))), (5, .int (v1 * v2))] [] r Q) (fun s x hb hh he => pbX12_compose_23 hb hh he) ?_) ⟨rfl, rfl, rfl, rfl, rfl, rfl, rfl, trivial⟩
  refine (?_ : ps_At mX12_compose (d + 6) 47 [(0, .ref x0), (1, .int x1), (2, .int x2), (3, .int x3), (4, .int ((576 : Int32) * (x1 + (1 : Int32)))), (5, .int (v1 * v2))] [] s10 Q)
  refine sX12_compose_47 ?_
  replace h := q_be h
  obtain ⟨u11, hv, h⟩ := h
  replace hv := q_ob_e hv
  obtain ⟨_, cu11⟩ := hv
  replace h := q_be h
  obtain ⟨v12, hv, h⟩ := h
  refine ⟨by decide, ⟨some _, rfl⟩, ⟨_, cu11⟩, ?_⟩
  refine rX12_many hv ?_
  refine ⟨by decide, by decide, ?_⟩
  replace h := q_be h
  obtain ⟨s65, hl, h⟩ := h
  refine ps_weak (q_lp_ok hl (fun s => ps_At mX12_compose (d + 6) 60 [(0, .ref x0), (1, .int x1), (2, .int x2), (3, .int x3), (4, .int ((576 : Int32) * (x1 + (1 : Int32)))), (5, .int (v1 * v2)), (6, .int s.1), (7, .int v12), (8, .int s.2.1)] [] s.2.2 Q) (fun r => ps_At mX12_compose (d + 6) 219 [] [] r Q) (fun s x hb hh he => pbX12_compose_60 hb hh he) ?_) ⟨rfl, rfl, rfl, rfl, rfl, rfl, rfl, rfl, rfl, trivial⟩
  refine (?_ : ps_At mX12_compose (d + 6) 219 [] [] s65 Q)
  refine sX12_compose_219 ?_
  cases h
  exact ⟨rfl, rfl, hk⟩
noncomputable def jX12_composeGroups_40_9 (g : ps_G) (x0 : Nat) (x1 : Int32) (x2 : Int32) : Option ((Int32 × ps_G) ⊕ (ps_G)) := some (.inl (x2 + (1 : Int32), g))
theorem pjX12_composeGroups_40_9 {d : Nat} {Q : ps_Rs → ps_G → Prop} {g : ps_G} {x0 : Nat} {x1 : Int32} {x2 : Int32} {x : (Int32 × ps_G) ⊕ (ps_G)} (h : jX12_composeGroups_40_9 g x0 x1 x2 = some x) (hh : ∀ s' : Int32 × ps_G, x = .inl s' → ps_At mX12_composeGroups (d + 7) 9 [(0, .ref x0), (1, .int x1), (2, .int s'.1)] [] s'.2 Q) (he : ∀ r' : ps_G, x = .inr r' → ps_At mX12_composeGroups (d + 7) 46 [(0, .ref x0), (1, .int x1)] [] r' Q) : ps_At mX12_composeGroups (d + 7) 40 [(0, .ref x0), (1, .int x1), (2, .int x2)] [] g Q := by
  unfold jX12_composeGroups_40_9 at h
  refine sX12_composeGroups_40 ?_
  refine ⟨by decide, ?_⟩
  exact ps_weak (hh (x2 + (1 : Int32), g) (Option.some.inj h).symm) ⟨rfl, rfl, rfl, trivial⟩
noncomputable def bX12_composeGroups_9 (x0 : Nat) (x1 : Int32) (x2 : Int32) (g : ps_G) : Option ((Int32 × ps_G) ⊕ (ps_G)) := if (30 : Int32) ≤ x2 then (some (.inr g)) else (Option.bind (q_ob 12 g x0) fun u4 => Option.bind (fX12_is g x0 x2 (1 : Int32)) fun v5 => if v5 = 0 then (jX12_composeGroups_40_9 g x0 x1 x2) else (Option.bind (q_ob 12 g x0) fun u8 => Option.bind (fX12_depthOf g x0 x2) fun v9 => if ¬ v9 = x1 then (jX12_composeGroups_40_9 g x0 x1 x2) else (Option.bind (q_ob 12 g x0) fun u12 => Option.bind (fX12_compose g x0 x2 (0 : Int32) (0 : Int32)) fun v13 => jX12_composeGroups_40_9 v13 x0 x1 x2)))
theorem pbX12_composeGroups_9 {d : Nat} {Q : ps_Rs → ps_G → Prop}  {x0 : Nat} {x1 : Int32} {x2 : Int32} {g : ps_G} {x : (Int32 × ps_G) ⊕ (ps_G)} (h : bX12_composeGroups_9 x0 x1 x2 g = some x) (hh : ∀ s' : Int32 × ps_G, x = .inl s' → ps_At mX12_composeGroups (d + 7) 9 [(0, .ref x0), (1, .int x1), (2, .int s'.1)] [] s'.2 Q) (he : ∀ r' : ps_G, x = .inr r' → ps_At mX12_composeGroups (d + 7) 46 [(0, .ref x0), (1, .int x1)] [] r' Q) : ps_At mX12_composeGroups (d + 7) 9 [(0, .ref x0), (1, .int x1), (2, .int x2)] [] g Q := by
  unfold bX12_composeGroups_9 at h
  refine sX12_composeGroups_9 ?_
  refine And.intro (fun hc2 => ?_) (fun hc2 => ?_)
  · replace h := q_ifp (hc2) h
    exact ps_weak (he g (Option.some.inj h).symm) ⟨rfl, rfl, trivial⟩
  · replace h := q_ifn (hc2) h
    replace h := q_be h
    obtain ⟨u4, hv, h⟩ := h
    replace hv := q_ob_e hv
    obtain ⟨_, cu4⟩ := hv
    replace h := q_be h
    obtain ⟨v5, hv, h⟩ := h
    refine ⟨⟨some _, rfl⟩, ⟨_, cu4⟩, ?_⟩
    refine rX12_is hv ?_
    refine And.intro (fun hc6 => ?_) (fun hc6 => ?_)
    · replace h := q_ifp (hc6) h
      exact ps_weak (pjX12_composeGroups_40_9 h hh he) ⟨rfl, rfl, rfl, trivial⟩
    · replace h := q_ifn (hc6) h
      replace h := q_be h
      obtain ⟨u8, hv, h⟩ := h
      replace hv := q_ob_e hv
      obtain ⟨_, cu8⟩ := hv
      replace h := q_be h
      obtain ⟨v9, hv, h⟩ := h
      refine ⟨⟨some _, rfl⟩, ⟨_, cu8⟩, ?_⟩
      refine rX12_depthOf hv ?_
      refine And.intro (fun hc10 => ?_) (fun hc10 => ?_)
      · replace h := q_ifp (hc10) h
        exact ps_weak (pjX12_composeGroups_40_9 h hh he) ⟨rfl, rfl, rfl, trivial⟩
      · replace h := q_ifn (hc10) h
        replace h := q_be h
        obtain ⟨u12, hv, h⟩ := h
        replace hv := q_ob_e hv
        obtain ⟨_, cu12⟩ := hv
        replace h := q_be h
        obtain ⟨v13, hv, h⟩ := h
        refine ⟨⟨some _, rfl⟩, ⟨_, cu12⟩, ?_⟩
        refine rX12_compose hv ?_
        exact ps_weak (pjX12_composeGroups_40_9 h hh he) ⟨rfl, rfl, rfl, trivial⟩
noncomputable def bX12_composeGroups_3 (x0 : Nat) (x1 : Int32) (g : ps_G) : Option ((Int32 × ps_G) ⊕ (ps_G)) := if x1 < 0 then (some (.inr g)) else (Option.bind (q_lp (fun s => bX12_composeGroups_9 x0 x1 s.1 s.2) ((0 : Int32), g)) fun s20 => some (.inl (x1 + (-1 : Int32), s20)))
theorem pbX12_composeGroups_3 {d : Nat} {Q : ps_Rs → ps_G → Prop}  {x0 : Nat} {x1 : Int32} {g : ps_G} {x : (Int32 × ps_G) ⊕ (ps_G)} (h : bX12_composeGroups_3 x0 x1 g = some x) (hh : ∀ s' : Int32 × ps_G, x = .inl s' → ps_At mX12_composeGroups (d + 7) 3 [(0, .ref x0), (1, .int s'.1)] [] s'.2 Q) (he : ∀ r' : ps_G, x = .inr r' → ps_At mX12_composeGroups (d + 7) 52 [] [] r' Q) : ps_At mX12_composeGroups (d + 7) 3 [(0, .ref x0), (1, .int x1)] [] g Q := by
  unfold bX12_composeGroups_3 at h
  refine sX12_composeGroups_3 ?_
  refine And.intro (fun hc1 => ?_) (fun hc1 => ?_)
  · replace h := q_ifp (hc1) h
    exact ps_weak (he g (Option.some.inj h).symm) trivial
  · replace h := q_ifn (hc1) h
    refine ⟨by decide, ?_⟩
    replace h := q_be h
    obtain ⟨s20, hl, h⟩ := h
    refine ps_weak (q_lp_ok hl (fun s => ps_At mX12_composeGroups (d + 7) 9 [(0, .ref x0), (1, .int x1), (2, .int s.1)] [] s.2 Q) (fun r => ps_At mX12_composeGroups (d + 7) 46 [(0, .ref x0), (1, .int x1)] [] r Q) (fun s x hb hh he => pbX12_composeGroups_9 hb hh he) ?_) ⟨rfl, rfl, rfl, trivial⟩
    refine (?_ : ps_At mX12_composeGroups (d + 7) 46 [(0, .ref x0), (1, .int x1)] [] s20 Q)
    refine sX12_composeGroups_46 ?_
    refine ⟨by decide, ?_⟩
    exact ps_weak (hh (x1 + (-1 : Int32), s20) (Option.some.inj h).symm) ⟨rfl, rfl, trivial⟩
noncomputable def fX12_composeGroups (g : ps_G) (x0 : Nat) : Option (ps_G) := Option.bind (q_lp (fun s => bX12_composeGroups_3 x0 s.1 s.2) ((29 : Int32), g)) fun s23 => some s23
theorem rX12_composeGroups {d : Nat} {Q : ps_Rs → ps_G → Prop} {g : ps_G} {x0 : Nat} {r : ps_G} (h : fX12_composeGroups g x0 = some r) (hk : Q (.inl none) r) : ps_Ok mX12_composeGroups (d + 7) [.ref x0] g Q := by
  unfold fX12_composeGroups at h
  refine sX12_composeGroups_0 ?_
  refine ⟨by decide, ?_⟩
  replace h := q_be h
  obtain ⟨s23, hl, h⟩ := h
  refine ps_weak (q_lp_ok hl (fun s => ps_At mX12_composeGroups (d + 7) 3 [(0, .ref x0), (1, .int s.1)] [] s.2 Q) (fun r => ps_At mX12_composeGroups (d + 7) 52 [] [] r Q) (fun s x hb hh he => pbX12_composeGroups_3 hb hh he) ?_) ⟨rfl, rfl, trivial⟩
  refine (?_ : ps_At mX12_composeGroups (d + 7) 52 [] [] s23 Q)
  refine sX12_composeGroups_52 ?_
  cases h
  exact ⟨rfl, rfl, hk⟩
noncomputable def fX12_composeAll (g : ps_G) (x0 : Nat) : Option (ps_G) := Option.bind (q_ob 12 g x0) fun u1 => Option.bind (fX12_composeGroups g x0) fun v2 => Option.bind (q_ob 12 v2 x0) fun u3 => Option.bind (fX12_compose v2 x0 (-1 : Int32) (0 : Int32) (0 : Int32)) fun v4 => some v4
theorem rX12_composeAll {d : Nat} {Q : ps_Rs → ps_G → Prop} {g : ps_G} {x0 : Nat} {r : ps_G} (h : fX12_composeAll g x0 = some r) (hk : Q (.inl none) r) : ps_Ok mX12_composeAll (d + 8) [.ref x0] g Q := by
  unfold fX12_composeAll at h
  refine sX12_composeAll_0 ?_
  replace h := q_be h
  obtain ⟨u1, hv, h⟩ := h
  replace hv := q_ob_e hv
  obtain ⟨_, cu1⟩ := hv
  replace h := q_be h
  obtain ⟨v2, hv, h⟩ := h
  refine ⟨⟨some _, rfl⟩, ⟨_, cu1⟩, ?_⟩
  refine rX12_composeGroups hv ?_
  replace h := q_be h
  obtain ⟨u3, hv, h⟩ := h
  replace hv := q_ob_e hv
  obtain ⟨_, cu3⟩ := hv
  replace h := q_be h
  obtain ⟨v4, hv, h⟩ := h
  refine ⟨⟨some _, rfl⟩, ⟨_, cu3⟩, ?_⟩
  refine rX12_compose hv ?_
  cases h
  exact ⟨rfl, rfl, hk⟩
noncomputable def jX12_see_139 (g : ps_G) (x0 : Nat) (x1 : Int32) (x2 : Int32) : Option (Int32 × ps_G) := Option.bind (q_fR 12 22 g x0) fun v16 => Option.bind (v16) fun a17 => Option.bind (q_ob 12 g x0) fun u18 => Option.bind (fX12_at g x0 x1 x2) fun v19 => Option.bind (q_aI g a17 v19) fun v20 => some (v20, g)
theorem pjX12_see_139 {d : Nat} {Q : ps_Rs → ps_G → Prop} {g : ps_G} {x0 : Nat} {x1 : Int32} {x2 : Int32} {r : Int32 × ps_G} (h : jX12_see_139 g x0 x1 x2 = some r) (hk : Q (.inl (some (.int r.1))) r.2) : ps_At mX12_see (d + 9) 139 [(0, .ref x0), (1, .int x1), (2, .int x2)] [] g Q := by
  unfold jX12_see_139 at h
  refine sX12_see_139 ?_
  replace h := q_be h
  obtain ⟨v16, hv, h⟩ := h
  replace hv := q_fR_e hv
  obtain ⟨_, cv16, dv16⟩ := hv
  replace h := q_be h
  obtain ⟨a17, ea17, h⟩ := h
  subst ea17
  replace h := q_be h
  obtain ⟨u18, hv, h⟩ := h
  replace hv := q_ob_e hv
  obtain ⟨_, cu18⟩ := hv
  replace h := q_be h
  obtain ⟨v19, hv, h⟩ := h
  refine ⟨⟨some _, rfl⟩, _, _, cv16, dv16, ⟨some _, rfl⟩, ⟨_, cu18⟩, ?_⟩
  refine rX12_at hv ?_
  replace h := q_be h
  obtain ⟨v20, hv, h⟩ := h
  replace hv := q_aI_e hv
  obtain ⟨_, _, cv20, iv20, yv20⟩ := hv
  cases h
  exact ⟨_, _, cv20, iv20, _, yv20, rfl, hk⟩
noncomputable def jX12_see_116_58 (g : ps_G) (x0 : Nat) (x1 : Int32) (x2 : Int32) (x3 : Int32) (x4 : Int32) : Option ((Int32 × ps_G) ⊕ (ps_G)) := some (.inl (x4 + (1 : Int32), g))
theorem pjX12_see_116_58 {d : Nat} {Q : ps_Rs → ps_G → Prop} {g : ps_G} {x0 : Nat} {x1 : Int32} {x2 : Int32} {x3 : Int32} {x4 : Int32} {x : (Int32 × ps_G) ⊕ (ps_G)} (h : jX12_see_116_58 g x0 x1 x2 x3 x4 = some x) (hh : ∀ s' : Int32 × ps_G, x = .inl s' → ps_At mX12_see (d + 9) 58 [(0, .ref x0), (1, .int x1), (2, .int x2), (3, .int x3), (4, .int s'.1)] [] s'.2 Q) (he : ∀ r' : ps_G, x = .inr r' → ps_At mX12_see (d + 9) 122 [(0, .ref x0), (1, .int x1), (2, .int x2), (3, .int x3)] [] r' Q) : ps_At mX12_see (d + 9) 116 [(0, .ref x0), (1, .int x1), (2, .int x2), (3, .int x3), (4, .int x4)] [] g Q := by
  unfold jX12_see_116_58 at h
  refine sX12_see_116 ?_
  refine ⟨by decide, ?_⟩
  exact ps_weak (hh (x4 + (1 : Int32), g) (Option.some.inj h).symm) ⟨rfl, rfl, rfl, rfl, rfl, trivial⟩
noncomputable def bX12_see_58 (x0 : Nat) (x1 : Int32) (x2 : Int32) (x3 : Int32) (x4 : Int32) (g : ps_G) : Option ((Int32 × ps_G) ⊕ (ps_G)) := Option.bind (q_fI 12 13 g x0) fun v23 => Option.bind (q_fI 12 14 g x0) fun v24 => if (v23 * v24) ≤ x4 then (some (.inr g)) else (Option.bind (q_ob 12 g x0) fun u27 => Option.bind (fX12_across g x0) fun v28 => Option.bind (q_fI 12 13 g x0) fun v29 => Option.bind (q_div x4 v29) fun v30 => Option.bind (q_fI 12 13 g x0) fun v31 => Option.bind (q_mod x4 v31) fun v32 => if ¬ ((v28 * (v30 / (8 : Int32))) + (v32 / (8 : Int32))) = x3 then (jX12_see_116_58 g x0 x1 x2 x3 x4) else (Option.bind (q_fR 12 22 g x0) fun v35 => Option.bind (v35) fun a36 => Option.bind (q_fR 12 16 g x0) fun v37 => Option.bind (v37) fun a38 => Option.bind (q_aI g a38 x4) fun v39 => Option.bind (q_wI g a36 x4 v39) fun g40 => jX12_see_116_58 g40 x0 x1 x2 x3 x4))
theorem pbX12_see_58 {d : Nat} {Q : ps_Rs → ps_G → Prop}  {x0 : Nat} {x1 : Int32} {x2 : Int32} {x3 : Int32} {x4 : Int32} {g : ps_G} {x : (Int32 × ps_G) ⊕ (ps_G)} (h : bX12_see_58 x0 x1 x2 x3 x4 g = some x) (hh : ∀ s' : Int32 × ps_G, x = .inl s' → ps_At mX12_see (d + 9) 58 [(0, .ref x0), (1, .int x1), (2, .int x2), (3, .int x3), (4, .int s'.1)] [] s'.2 Q) (he : ∀ r' : ps_G, x = .inr r' → ps_At mX12_see (d + 9) 122 [(0, .ref x0), (1, .int x1), (2, .int x2), (3, .int x3)] [] r' Q) : ps_At mX12_see (d + 9) 58 [(0, .ref x0), (1, .int x1), (2, .int x2), (3, .int x3), (4, .int x4)] [] g Q := by
  unfold bX12_see_58 at h
  refine sX12_see_58 ?_
  replace h := q_be h
  obtain ⟨v23, hv, h⟩ := h
  replace hv := q_fI_e hv
  obtain ⟨_, cv23, dv23⟩ := hv
  replace h := q_be h
  obtain ⟨v24, hv, h⟩ := h
  replace hv := q_fI_e hv
  obtain ⟨_, cv24, dv24⟩ := hv
  refine ⟨⟨some _, rfl⟩, _, _, cv23, dv23, ⟨some _, rfl⟩, _, _, cv24, dv24, ?_⟩
  refine And.intro (fun hc25 => ?_) (fun hc25 => ?_)
  · replace h := q_ifp (hc25) h
    exact ps_weak (he g (Option.some.inj h).symm) ⟨rfl, rfl, rfl, rfl, trivial⟩
  · replace h := q_ifn (hc25) h
    replace h := q_be h
    obtain ⟨u27, hv, h⟩ := h
    replace hv := q_ob_e hv
    obtain ⟨_, cu27⟩ := hv
    replace h := q_be h
    obtain ⟨v28, hv, h⟩ := h
    refine ⟨⟨some _, rfl⟩, ⟨_, cu27⟩, ?_⟩
    refine rX12_across hv ?_
    replace h := q_be h
    obtain ⟨v29, hv, h⟩ := h
    replace hv := q_fI_e hv
    obtain ⟨_, cv29, dv29⟩ := hv
    replace h := q_be h
    obtain ⟨v30, hv, h⟩ := h
    replace hv := q_div_e hv
    obtain ⟨zv30, yv30⟩ := hv
    replace h := q_be h
    obtain ⟨v31, hv, h⟩ := h
    replace hv := q_fI_e hv
    obtain ⟨_, cv31, dv31⟩ := hv
    replace h := q_be h
    obtain ⟨v32, hv, h⟩ := h
    replace hv := q_mod_e hv
    obtain ⟨zv32, yv32⟩ := hv
    refine ⟨⟨some _, rfl⟩, _, _, cv29, dv29, zv30, _, yv30, by decide, _, rfl, ⟨some _, rfl⟩, _, _, cv31, dv31, zv32, _, yv32, by decide, _, rfl, ?_⟩
    refine And.intro (fun hc33 => ?_) (fun hc33 => ?_)
    · replace h := q_ifp (hc33) h
      exact ps_weak (pjX12_see_116_58 h hh he) ⟨rfl, rfl, rfl, rfl, rfl, trivial⟩
    · replace h := q_ifn (hc33) h
      replace h := q_be h
      obtain ⟨v35, hv, h⟩ := h
      replace hv := q_fR_e hv
      obtain ⟨_, cv35, dv35⟩ := hv
      replace h := q_be h
      obtain ⟨a36, ea36, h⟩ := h
      subst ea36
      replace h := q_be h
      obtain ⟨v37, hv, h⟩ := h
      replace hv := q_fR_e hv
      obtain ⟨_, cv37, dv37⟩ := hv
      replace h := q_be h
      obtain ⟨a38, ea38, h⟩ := h
      subst ea38
      replace h := q_be h
      obtain ⟨v39, hv, h⟩ := h
      replace hv := q_aI_e hv
      obtain ⟨_, _, cv39, iv39, yv39⟩ := hv
      replace h := q_be h
      obtain ⟨g40, hv, h⟩ := h
      replace hv := q_wI_e hv
      obtain ⟨_, _, cg40, pg40, ig40, yg40⟩ := hv
      refine ⟨⟨some _, rfl⟩, _, _, cv35, dv35, ⟨some _, rfl⟩, _, _, cv37, dv37, _, _, cv39, iv39, _, yv39, _, _, cg40, pg40, ig40, _, yg40, ?_⟩
      exact ps_weak (pjX12_see_116_58 h hh he) ⟨rfl, rfl, rfl, rfl, rfl, trivial⟩
noncomputable def fX12_see (g : ps_G) (x0 : Nat) (x1 : Int32) (x2 : Int32) : Option (Int32 × ps_G) := Option.bind (q_ob 12 g x0) fun u1 => Option.bind (fX12_isPlace g x0 x1 x2) fun v2 => Option.bind (q_sI 12 0 g x0 (if v2 = 0 then (1 : Int32) else (0 : Int32))) fun g6 => Option.bind (q_fI 12 0 g6 x0) fun v7 => if v7 ≤ 0 then (Option.bind (q_ob 12 g6 x0) fun u9 => Option.bind (fX12_across g6 x0) fun v10 => Option.bind (q_fR 12 21 g6 x0) fun v11 => Option.bind (v11) fun a12 => Option.bind (q_aB g6 a12 ((v10 * (x2 / (8 : Int32))) + (x1 / (8 : Int32)))) fun v13 => if ¬ v13 = 0 then (jX12_see_139 g6 x0 x1 x2) else (Option.bind (q_ob 12 g6 x0) fun u21 => Option.bind (fX12_composeAll g6 x0) fun v22 => Option.bind (q_lp (fun s => bX12_see_58 x0 x1 x2 ((v10 * (x2 / (8 : Int32))) + (x1 / (8 : Int32))) s.1 s.2) ((0 : Int32), v22)) fun s45 => Option.bind (q_fR 12 21 s45 x0) fun v46 => Option.bind (v46) fun a47 => Option.bind (q_wB s45 a47 ((v10 * (x2 / (8 : Int32))) + (x1 / (8 : Int32))) (1 : Int32)) fun g48 => Option.bind (q_fI 12 23 g48 x0) fun v49 => Option.bind (q_sI 12 23 g48 x0 (v49 + (1 : Int32))) fun g50 => jX12_see_139 g50 x0 x1 x2)) else (some ((0 : Int32), g6))
theorem rX12_see {d : Nat} {Q : ps_Rs → ps_G → Prop} {g : ps_G} {x0 : Nat} {x1 : Int32} {x2 : Int32} {r : Int32 × ps_G} (h : fX12_see g x0 x1 x2 = some r) (hk : Q (.inl (some (.int r.1))) r.2) : ps_Ok mX12_see (d + 9) [.ref x0, .int x1, .int x2] g Q := by
  unfold fX12_see at h
  refine sX12_see_0 ?_
  replace h := q_be h
  obtain ⟨u1, hv, h⟩ := h
  replace hv := q_ob_e hv
  obtain ⟨_, cu1⟩ := hv
  replace h := q_be h
  obtain ⟨v2, hv, h⟩ := h
  refine ⟨⟨some _, rfl⟩, ⟨some _, rfl⟩, ⟨_, cu1⟩, ?_⟩
  refine rX12_isPlace hv ?_
  have kJ5 : ∀ w4 : Int32, w4 = (if v2 = 0 then (1 : Int32) else (0 : Int32)) → ps_At mX12_see (d + 9) 15 [(0, .ref x0), (1, .int x1), (2, .int x2)] [.int w4, .ref x0] g Q := by
    rintro _ rfl
    refine sX12_see_15 ?_
    replace h := q_be h
    obtain ⟨g6, hv, h⟩ := h
    replace hv := q_sI_e hv
    obtain ⟨_, cg6, dg6, yg6⟩ := hv
    replace h := q_be h
    obtain ⟨v7, hv, h⟩ := h
    replace hv := q_fI_e hv
    obtain ⟨_, cv7, dv7⟩ := hv
    refine ⟨_, cg6, dg6, rfl, rfl, _, yg6, ⟨some _, rfl⟩, _, _, cv7, dv7, ?_⟩
    refine And.intro (fun hc8 => ?_) (fun hc8 => ?_)
    · replace h := q_ifp (hc8) h
      refine sX12_see_27 ?_
      replace h := q_be h
      obtain ⟨u9, hv, h⟩ := h
      replace hv := q_ob_e hv
      obtain ⟨_, cu9⟩ := hv
      replace h := q_be h
      obtain ⟨v10, hv, h⟩ := h
      refine ⟨⟨some _, rfl⟩, ⟨_, cu9⟩, ?_⟩
      refine rX12_across hv ?_
      replace h := q_be h
      obtain ⟨v11, hv, h⟩ := h
      replace hv := q_fR_e hv
      obtain ⟨_, cv11, dv11⟩ := hv
      replace h := q_be h
      obtain ⟨a12, ea12, h⟩ := h
      subst ea12
      replace h := q_be h
      obtain ⟨v13, hv, h⟩ := h
      replace hv := q_aB_e hv
      obtain ⟨_, _, cv13, iv13, yv13⟩ := hv
      refine ⟨by decide, _, rfl, by decide, _, rfl, by decide, ⟨some _, rfl⟩, _, _, cv11, dv11, _, _, cv13, iv13, _, yv13, ?_⟩
      refine And.intro (fun hc14 => ?_) (fun hc14 => ?_)
      · replace h := q_ifp (hc14) h
        exact ps_weak (pjX12_see_139 h hk) ⟨rfl, rfl, rfl, trivial⟩
      · replace h := q_ifn (hc14) h
        replace h := q_be h
        obtain ⟨u21, hv, h⟩ := h
        replace hv := q_ob_e hv
        obtain ⟨_, cu21⟩ := hv
        replace h := q_be h
        obtain ⟨v22, hv, h⟩ := h
        refine ⟨⟨some _, rfl⟩, ⟨_, cu21⟩, ?_⟩
        refine rX12_composeAll hv ?_
        refine ⟨by decide, ?_⟩
        replace h := q_be h
        obtain ⟨s45, hl, h⟩ := h
        refine ps_weak (q_lp_ok hl (fun s => ps_At mX12_see (d + 9) 58 [(0, .ref x0), (1, .int x1), (2, .int x2), (3, .int ((v10 * (x2 / (8 : Int32))) + (x1 / (8 : Int32)))), (4, .int s.1)] [] s.2 Q) (fun r => ps_At mX12_see (d + 9) 122 [(0, .ref x0), (1, .int x1), (2, .int x2), (3, .int ((v10 * (x2 / (8 : Int32))) + (x1 / (8 : Int32))))] [] r Q) (fun s x hb hh he => pbX12_see_58 hb hh he) ?_) ⟨rfl, rfl, rfl, rfl, rfl, trivial⟩
        refine (?_ : ps_At mX12_see (d + 9) 122 [(0, .ref x0), (1, .int x1), (2, .int x2), (3, .int ((v10 * (x2 / (8 : Int32))) + (x1 / (8 : Int32))))] [] s45 Q)
        refine sX12_see_122 ?_
        replace h := q_be h
        obtain ⟨v46, hv, h⟩ := h
        replace hv := q_fR_e hv
        obtain ⟨_, cv46, dv46⟩ := hv
        replace h := q_be h
        obtain ⟨a47, ea47, h⟩ := h
        subst ea47
        replace h := q_be h
        obtain ⟨g48, hv, h⟩ := h
        replace hv := q_wB_e hv
        obtain ⟨_, _, cg48, ig48, yg48⟩ := hv
        replace h := q_be h
        obtain ⟨v49, hv, h⟩ := h
        replace hv := q_fI_e hv
        obtain ⟨_, cv49, dv49⟩ := hv
        replace h := q_be h
        obtain ⟨g50, hv, h⟩ := h
        replace hv := q_sI_e hv
        obtain ⟨_, cg50, dg50, yg50⟩ := hv
        refine ⟨⟨some _, rfl⟩, _, _, cv46, dv46, _, _, cg48, ig48, _, yg48, ⟨some _, rfl⟩, rfl, _, _, cv49, dv49, _, cg50, dg50, rfl, rfl, _, yg50, ?_⟩
        exact ps_weak (pjX12_see_139 h hk) ⟨rfl, rfl, rfl, trivial⟩
    · replace h := q_ifn (hc8) h
      cases h
      exact ⟨rfl, hk⟩
  refine And.intro (fun hc3 => ?_) (fun hc3 => ?_)
  · refine sX12_see_14 ?_
    exact ps_weak (kJ5 _ (if_pos (hc3)).symm) ⟨rfl, rfl, rfl, trivial⟩
  · exact ps_weak (kJ5 _ (if_neg (hc3)).symm) ⟨rfl, rfl, rfl, trivial⟩
noncomputable def bX12_zoomed_154 (g : ps_G) (x0 : Nat) (x2 : Int32) (x3 : Int32) (x5 : Int32) (x12 : Int32) (x7 : Int32) (x8 : Int32) (x9 : Int32) (x10 : Int32) (x11 : Int32) (x13 : Int32) : Option ((Int32 × Int32 × Int32 × Int32 × Int32 × Int32) ⊕ (Int32 × Int32 × Int32 × Int32 × Int32)) := if ((x2 + (1 : Int32)) * x5) ≤ x13 then (some (.inr (x7, x8, x9, x10, x11))) else (Option.bind (q_fI 12 13 g x0) fun v23 => if v23 ≤ x13 then (some (.inr (x7, x8, x9, x10, x11))) else (Option.bind (q_fR 12 16 g x0) fun v26 => Option.bind (v26) fun a27 => Option.bind (q_ob 12 g x0) fun u28 => Option.bind (fX12_at g x0 x13 x12) fun v29 => Option.bind (q_aI g a27 v29) fun v30 => some (.inl (x7 + (1 : Int32), x8 + (fX12_alpha v30), x9 + ((fX12_alpha v30) * (fX12_part v30 (0 : Int32))), x10 + ((fX12_alpha v30) * (fX12_part v30 (1 : Int32))), x11 + ((fX12_alpha v30) * (fX12_part v30 (2 : Int32))), x13 + (1 : Int32)))))
theorem pbX12_zoomed_154 {d : Nat} {Q : ps_Rs → ps_G → Prop} {g : ps_G} {x0 : Nat} {x2 : Int32} {x3 : Int32} {x5 : Int32} {x12 : Int32} {x7 : Int32} {x8 : Int32} {x9 : Int32} {x10 : Int32} {x11 : Int32} {x13 : Int32} {x : (Int32 × Int32 × Int32 × Int32 × Int32 × Int32) ⊕ (Int32 × Int32 × Int32 × Int32 × Int32)} (h : bX12_zoomed_154 g x0 x2 x3 x5 x12 x7 x8 x9 x10 x11 x13 = some x) (hh : ∀ s' : Int32 × Int32 × Int32 × Int32 × Int32 × Int32, x = .inl s' → ps_At mX12_zoomed (d + 9) 154 [(0, .ref x0), (2, .int x2), (3, .int x3), (5, .int x5), (7, .int s'.1), (8, .int s'.2.1), (9, .int s'.2.2.1), (10, .int s'.2.2.2.1), (11, .int s'.2.2.2.2.1), (12, .int x12), (13, .int s'.2.2.2.2.2)] [] g Q) (he : ∀ r' : Int32 × Int32 × Int32 × Int32 × Int32, x = .inr r' → ps_At mX12_zoomed (d + 9) 259 [(0, .ref x0), (2, .int x2), (3, .int x3), (5, .int x5), (7, .int r'.1), (8, .int r'.2.1), (9, .int r'.2.2.1), (10, .int r'.2.2.2.1), (11, .int r'.2.2.2.2), (12, .int x12)] [] g Q) : ps_At mX12_zoomed (d + 9) 154 [(0, .ref x0), (2, .int x2), (3, .int x3), (5, .int x5), (7, .int x7), (8, .int x8), (9, .int x9), (10, .int x10), (11, .int x11), (12, .int x12), (13, .int x13)] [] g Q := by
  unfold bX12_zoomed_154 at h
  refine sX12_zoomed_154 ?_
  refine And.intro (fun hc21 => ?_) (fun hc21 => ?_)
  · replace h := q_ifp (hc21) h
    exact ps_weak (he (x7, x8, x9, x10, x11) (Option.some.inj h).symm) ⟨rfl, rfl, rfl, rfl, rfl, rfl, rfl, rfl, rfl, rfl, trivial⟩
  · replace h := q_ifn (hc21) h
    replace h := q_be h
    obtain ⟨v23, hv, h⟩ := h
    replace hv := q_fI_e hv
    obtain ⟨_, cv23, dv23⟩ := hv
    refine ⟨⟨some _, rfl⟩, _, _, cv23, dv23, ?_⟩
    refine And.intro (fun hc24 => ?_) (fun hc24 => ?_)
    · replace h := q_ifp (hc24) h
      exact ps_weak (he (x7, x8, x9, x10, x11) (Option.some.inj h).symm) ⟨rfl, rfl, rfl, rfl, rfl, rfl, rfl, rfl, rfl, rfl, trivial⟩
    · replace h := q_ifn (hc24) h
      replace h := q_be h
      obtain ⟨v26, hv, h⟩ := h
      replace hv := q_fR_e hv
      obtain ⟨_, cv26, dv26⟩ := hv
      replace h := q_be h
      obtain ⟨a27, ea27, h⟩ := h
      subst ea27
      replace h := q_be h
      obtain ⟨u28, hv, h⟩ := h
      replace hv := q_ob_e hv
      obtain ⟨_, cu28⟩ := hv
      replace h := q_be h
      obtain ⟨v29, hv, h⟩ := h
      refine ⟨⟨some _, rfl⟩, _, _, cv26, dv26, ⟨some _, rfl⟩, ⟨_, cu28⟩, ?_⟩
      refine rX12_at hv ?_
      replace h := q_be h
      obtain ⟨v30, hv, h⟩ := h
      replace hv := q_aI_e hv
      obtain ⟨_, _, cv30, iv30, yv30⟩ := hv
      refine ⟨_, _, cv30, iv30, _, yv30, by decide, by decide, ?_⟩
      refine rX12_alpha rfl ?_
      refine ⟨by decide, ?_⟩
      refine rX12_alpha rfl ?_
      refine rX12_part rfl ?_
      refine ⟨by decide, ?_⟩
      refine rX12_alpha rfl ?_
      refine rX12_part rfl ?_
      refine ⟨by decide, ?_⟩
      refine rX12_alpha rfl ?_
      refine rX12_part rfl ?_
      refine ⟨by decide, by decide, ?_⟩
      exact ps_weak (hh (x7 + (1 : Int32), x8 + (fX12_alpha v30), x9 + ((fX12_alpha v30) * (fX12_part v30 (0 : Int32))), x10 + ((fX12_alpha v30) * (fX12_part v30 (1 : Int32))), x11 + ((fX12_alpha v30) * (fX12_part v30 (2 : Int32))), x13 + (1 : Int32)) (Option.some.inj h).symm) ⟨rfl, rfl, rfl, rfl, rfl, rfl, rfl, rfl, rfl, rfl, rfl, trivial⟩
noncomputable def jX12_zoomed_259_128 (g : ps_G) (x0 : Nat) (x2 : Int32) (x3 : Int32) (x5 : Int32) (x7 : Int32) (x8 : Int32) (x9 : Int32) (x10 : Int32) (x11 : Int32) (x12 : Int32) : Option ((Int32 × Int32 × Int32 × Int32 × Int32 × Int32) ⊕ (Int32 × Int32 × Int32 × Int32 × Int32)) := some (.inl (x7, x8, x9, x10, x11, x12 + (1 : Int32)))
theorem pjX12_zoomed_259_128 {d : Nat} {Q : ps_Rs → ps_G → Prop} {g : ps_G} {x0 : Nat} {x2 : Int32} {x3 : Int32} {x5 : Int32} {x7 : Int32} {x8 : Int32} {x9 : Int32} {x10 : Int32} {x11 : Int32} {x12 : Int32} {x : (Int32 × Int32 × Int32 × Int32 × Int32 × Int32) ⊕ (Int32 × Int32 × Int32 × Int32 × Int32)} (h : jX12_zoomed_259_128 g x0 x2 x3 x5 x7 x8 x9 x10 x11 x12 = some x) (hh : ∀ s' : Int32 × Int32 × Int32 × Int32 × Int32 × Int32, x = .inl s' → ps_At mX12_zoomed (d + 9) 128 [(0, .ref x0), (2, .int x2), (3, .int x3), (5, .int x5), (7, .int s'.1), (8, .int s'.2.1), (9, .int s'.2.2.1), (10, .int s'.2.2.2.1), (11, .int s'.2.2.2.2.1), (12, .int s'.2.2.2.2.2)] [] g Q) (he : ∀ r' : Int32 × Int32 × Int32 × Int32 × Int32, x = .inr r' → ps_At mX12_zoomed (d + 9) 265 [(7, .int r'.1), (8, .int r'.2.1), (9, .int r'.2.2.1), (10, .int r'.2.2.2.1), (11, .int r'.2.2.2.2)] [] g Q) : ps_At mX12_zoomed (d + 9) 259 [(0, .ref x0), (2, .int x2), (3, .int x3), (5, .int x5), (7, .int x7), (8, .int x8), (9, .int x9), (10, .int x10), (11, .int x11), (12, .int x12)] [] g Q := by
  unfold jX12_zoomed_259_128 at h
  refine sX12_zoomed_259 ?_
  refine ⟨by decide, ?_⟩
  exact ps_weak (hh (x7, x8, x9, x10, x11, x12 + (1 : Int32)) (Option.some.inj h).symm) ⟨rfl, rfl, rfl, rfl, rfl, rfl, rfl, rfl, rfl, rfl, trivial⟩
noncomputable def bX12_zoomed_128 (g : ps_G) (x0 : Nat) (x2 : Int32) (x3 : Int32) (x5 : Int32) (x7 : Int32) (x8 : Int32) (x9 : Int32) (x10 : Int32) (x11 : Int32) (x12 : Int32) : Option ((Int32 × Int32 × Int32 × Int32 × Int32 × Int32) ⊕ (Int32 × Int32 × Int32 × Int32 × Int32)) := if ((x3 + (1 : Int32)) * x5) ≤ x12 then (some (.inr (x7, x8, x9, x10, x11))) else (Option.bind (q_fI 12 14 g x0) fun v19 => if v19 ≤ x12 then (some (.inr (x7, x8, x9, x10, x11))) else (Option.bind (q_lp (fun s => bX12_zoomed_154 g x0 x2 x3 x5 x12 s.1 s.2.1 s.2.2.1 s.2.2.2.1 s.2.2.2.2.1 s.2.2.2.2.2) (x7, x8, x9, x10, x11, x2 * x5)) fun s35 => jX12_zoomed_259_128 g x0 x2 x3 x5 s35.1 s35.2.1 s35.2.2.1 s35.2.2.2.1 s35.2.2.2.2 x12))
theorem pbX12_zoomed_128 {d : Nat} {Q : ps_Rs → ps_G → Prop} {g : ps_G} {x0 : Nat} {x2 : Int32} {x3 : Int32} {x5 : Int32} {x7 : Int32} {x8 : Int32} {x9 : Int32} {x10 : Int32} {x11 : Int32} {x12 : Int32} {x : (Int32 × Int32 × Int32 × Int32 × Int32 × Int32) ⊕ (Int32 × Int32 × Int32 × Int32 × Int32)} (h : bX12_zoomed_128 g x0 x2 x3 x5 x7 x8 x9 x10 x11 x12 = some x) (hh : ∀ s' : Int32 × Int32 × Int32 × Int32 × Int32 × Int32, x = .inl s' → ps_At mX12_zoomed (d + 9) 128 [(0, .ref x0), (2, .int x2), (3, .int x3), (5, .int x5), (7, .int s'.1), (8, .int s'.2.1), (9, .int s'.2.2.1), (10, .int s'.2.2.2.1), (11, .int s'.2.2.2.2.1), (12, .int s'.2.2.2.2.2)] [] g Q) (he : ∀ r' : Int32 × Int32 × Int32 × Int32 × Int32, x = .inr r' → ps_At mX12_zoomed (d + 9) 265 [(7, .int r'.1), (8, .int r'.2.1), (9, .int r'.2.2.1), (10, .int r'.2.2.2.1), (11, .int r'.2.2.2.2)] [] g Q) : ps_At mX12_zoomed (d + 9) 128 [(0, .ref x0), (2, .int x2), (3, .int x3), (5, .int x5), (7, .int x7), (8, .int x8), (9, .int x9), (10, .int x10), (11, .int x11), (12, .int x12)] [] g Q := by
  unfold bX12_zoomed_128 at h
  refine sX12_zoomed_128 ?_
  refine And.intro (fun hc17 => ?_) (fun hc17 => ?_)
  · replace h := q_ifp (hc17) h
    exact ps_weak (he (x7, x8, x9, x10, x11) (Option.some.inj h).symm) ⟨rfl, rfl, rfl, rfl, rfl, trivial⟩
  · replace h := q_ifn (hc17) h
    replace h := q_be h
    obtain ⟨v19, hv, h⟩ := h
    replace hv := q_fI_e hv
    obtain ⟨_, cv19, dv19⟩ := hv
    refine ⟨⟨some _, rfl⟩, _, _, cv19, dv19, ?_⟩
    refine And.intro (fun hc20 => ?_) (fun hc20 => ?_)
    · replace h := q_ifp (hc20) h
      exact ps_weak (he (x7, x8, x9, x10, x11) (Option.some.inj h).symm) ⟨rfl, rfl, rfl, rfl, rfl, trivial⟩
    · replace h := q_ifn (hc20) h
      refine ⟨by decide, ?_⟩
      replace h := q_be h
      obtain ⟨s35, hl, h⟩ := h
      refine ps_weak (q_lp_ok hl (fun s => ps_At mX12_zoomed (d + 9) 154 [(0, .ref x0), (2, .int x2), (3, .int x3), (5, .int x5), (7, .int s.1), (8, .int s.2.1), (9, .int s.2.2.1), (10, .int s.2.2.2.1), (11, .int s.2.2.2.2.1), (12, .int x12), (13, .int s.2.2.2.2.2)] [] g Q) (fun r => ps_At mX12_zoomed (d + 9) 259 [(0, .ref x0), (2, .int x2), (3, .int x3), (5, .int x5), (7, .int r.1), (8, .int r.2.1), (9, .int r.2.2.1), (10, .int r.2.2.2.1), (11, .int r.2.2.2.2), (12, .int x12)] [] g Q) (fun s x hb hh he => pbX12_zoomed_154 hb hh he) ?_) ⟨rfl, rfl, rfl, rfl, rfl, rfl, rfl, rfl, rfl, rfl, rfl, trivial⟩
      refine (?_ : ps_At mX12_zoomed (d + 9) 259 [(0, .ref x0), (2, .int x2), (3, .int x3), (5, .int x5), (7, .int s35.1), (8, .int s35.2.1), (9, .int s35.2.2.1), (10, .int s35.2.2.2.1), (11, .int s35.2.2.2.2), (12, .int x12)] [] g Q)
      exact ps_weak (pjX12_zoomed_259_128 h hh he) ⟨rfl, rfl, rfl, rfl, rfl, rfl, rfl, rfl, rfl, rfl, trivial⟩
noncomputable def jX12_zoomed_317 (g : ps_G) (k0 : Int32) : Option (Int32 × ps_G) := some (k0, g)
theorem pjX12_zoomed_317 {d : Nat} {Q : ps_Rs → ps_G → Prop} {g : ps_G} {k0 : Int32} {r : Int32 × ps_G} (h : jX12_zoomed_317 g k0 = some r) (hk : Q (.inl (some (.int r.1))) r.2) : ps_At mX12_zoomed (d + 9) 317 [] [.int k0] g Q := by
  unfold jX12_zoomed_317 at h
  refine sX12_zoomed_317 ?_
  cases h
  exact ⟨rfl, hk⟩
noncomputable def jX12_zoomed_265 (g : ps_G) (x7 : Int32) (x8 : Int32) (x9 : Int32) (x10 : Int32) (x11 : Int32) : Option (Int32 × ps_G) := if ¬ x8 = 0 then (Option.bind (q_div (x9 + (x8 / (2 : Int32))) x8) fun v43 => Option.bind (q_div (x10 + (x8 / (2 : Int32))) x8) fun v44 => Option.bind (q_div (x11 + (x8 / (2 : Int32))) x8) fun v45 => Option.bind (q_div (x8 + (x7 / (2 : Int32))) x7) fun v46 => jX12_zoomed_317 g (fX12_colour v43 v44 v45 v46)) else (jX12_zoomed_317 g (0 : Int32))
theorem pjX12_zoomed_265 {d : Nat} {Q : ps_Rs → ps_G → Prop} {g : ps_G} {x7 : Int32} {x8 : Int32} {x9 : Int32} {x10 : Int32} {x11 : Int32} {r : Int32 × ps_G} (h : jX12_zoomed_265 g x7 x8 x9 x10 x11 = some r) (hk : Q (.inl (some (.int r.1))) r.2) : ps_At mX12_zoomed (d + 9) 265 [(7, .int x7), (8, .int x8), (9, .int x9), (10, .int x10), (11, .int x11)] [] g Q := by
  unfold jX12_zoomed_265 at h
  refine sX12_zoomed_265 ?_
  refine And.intro (fun hc41 => ?_) (fun hc41 => ?_)
  · replace h := q_ifp (hc41) h
    refine sX12_zoomed_274 ?_
    replace h := q_be h
    obtain ⟨v43, hv, h⟩ := h
    replace hv := q_div_e hv
    obtain ⟨zv43, yv43⟩ := hv
    replace h := q_be h
    obtain ⟨v44, hv, h⟩ := h
    replace hv := q_div_e hv
    obtain ⟨zv44, yv44⟩ := hv
    replace h := q_be h
    obtain ⟨v45, hv, h⟩ := h
    replace hv := q_div_e hv
    obtain ⟨zv45, yv45⟩ := hv
    replace h := q_be h
    obtain ⟨v46, hv, h⟩ := h
    replace hv := q_div_e hv
    obtain ⟨zv46, yv46⟩ := hv
    refine ⟨by decide, _, rfl, zv43, _, yv43, by decide, _, rfl, zv44, _, yv44, by decide, _, rfl, zv45, _, yv45, by decide, _, rfl, zv46, _, yv46, ?_⟩
    refine rX12_colour rfl ?_
    exact ps_weak (pjX12_zoomed_317 h hk) trivial
  · replace h := q_ifn (hc41) h
    exact ps_weak (pjX12_zoomed_317 h hk) trivial
noncomputable def jX12_zoomed_69 (g : ps_G) (x0 : Nat) (x2 : Int32) (x3 : Int32) (x4 : Int32) (x5 : Int32) (k0 : Int32) : Option (Int32 × ps_G) := Option.bind (q_sI 12 0 g x0 (if x4 = 0 then (if k0 = 0 then (2 : Int32) else (0 : Int32)) else (1 : Int32))) fun g12 => Option.bind (q_fI 12 0 g12 x0) fun v13 => if v13 ≤ 0 then (Option.bind (q_ob 12 g12 x0) fun u15 => Option.bind (fX12_composeAll g12 x0) fun v16 => Option.bind (q_lp (fun s => bX12_zoomed_128 v16 x0 x2 x3 x5 s.1 s.2.1 s.2.2.1 s.2.2.2.1 s.2.2.2.2.1 s.2.2.2.2.2) ((0 : Int32), (0 : Int32), (0 : Int32), (0 : Int32), (0 : Int32), x3 * x5)) fun s40 => jX12_zoomed_265 v16 s40.1 s40.2.1 s40.2.2.1 s40.2.2.2.1 s40.2.2.2.2) else (some ((0 : Int32), g12))
theorem pjX12_zoomed_69 {d : Nat} {Q : ps_Rs → ps_G → Prop} {g : ps_G} {x0 : Nat} {x2 : Int32} {x3 : Int32} {x4 : Int32} {x5 : Int32} {k0 : Int32} {r : Int32 × ps_G} (h : jX12_zoomed_69 g x0 x2 x3 x4 x5 k0 = some r) (hk : Q (.inl (some (.int r.1))) r.2) : ps_At mX12_zoomed (d + 9) 69 [(0, .ref x0), (2, .int x2), (3, .int x3), (4, .int x4), (5, .int x5)] [.int k0] g Q := by
  unfold jX12_zoomed_69 at h
  refine sX12_zoomed_69 ?_
  have kJ11 : ∀ w10 : Int32, w10 = (if x4 = 0 then (if k0 = 0 then (2 : Int32) else (0 : Int32)) else (1 : Int32)) → ps_At mX12_zoomed (d + 9) 91 [(0, .ref x0), (2, .int x2), (3, .int x3), (5, .int x5)] [.int w10, .ref x0] g Q := by
    rintro _ rfl
    refine sX12_zoomed_91 ?_
    replace h := q_be h
    obtain ⟨g12, hv, h⟩ := h
    replace hv := q_sI_e hv
    obtain ⟨_, cg12, dg12, yg12⟩ := hv
    replace h := q_be h
    obtain ⟨v13, hv, h⟩ := h
    replace hv := q_fI_e hv
    obtain ⟨_, cv13, dv13⟩ := hv
    refine ⟨_, cg12, dg12, rfl, rfl, _, yg12, ⟨some _, rfl⟩, _, _, cv13, dv13, ?_⟩
    refine And.intro (fun hc14 => ?_) (fun hc14 => ?_)
    · replace h := q_ifp (hc14) h
      refine sX12_zoomed_103 ?_
      replace h := q_be h
      obtain ⟨u15, hv, h⟩ := h
      replace hv := q_ob_e hv
      obtain ⟨_, cu15⟩ := hv
      replace h := q_be h
      obtain ⟨v16, hv, h⟩ := h
      refine ⟨⟨some _, rfl⟩, ⟨_, cu15⟩, ?_⟩
      refine rX12_composeAll hv ?_
      refine ⟨by decide, by decide, by decide, by decide, by decide, by decide, ?_⟩
      replace h := q_be h
      obtain ⟨s40, hl, h⟩ := h
      refine ps_weak (q_lp_ok hl (fun s => ps_At mX12_zoomed (d + 9) 128 [(0, .ref x0), (2, .int x2), (3, .int x3), (5, .int x5), (7, .int s.1), (8, .int s.2.1), (9, .int s.2.2.1), (10, .int s.2.2.2.1), (11, .int s.2.2.2.2.1), (12, .int s.2.2.2.2.2)] [] v16 Q) (fun r => ps_At mX12_zoomed (d + 9) 265 [(7, .int r.1), (8, .int r.2.1), (9, .int r.2.2.1), (10, .int r.2.2.2.1), (11, .int r.2.2.2.2)] [] v16 Q) (fun s x hb hh he => pbX12_zoomed_128 hb hh he) ?_) ⟨rfl, rfl, rfl, rfl, rfl, rfl, rfl, rfl, rfl, rfl, trivial⟩
      refine (?_ : ps_At mX12_zoomed (d + 9) 265 [(7, .int s40.1), (8, .int s40.2.1), (9, .int s40.2.2.1), (10, .int s40.2.2.2.1), (11, .int s40.2.2.2.2)] [] v16 Q)
      exact ps_weak (pjX12_zoomed_265 h hk) ⟨rfl, rfl, rfl, rfl, rfl, trivial⟩
    · replace h := q_ifn (hc14) h
      cases h
      exact ⟨rfl, hk⟩
  refine ⟨by decide, ⟨some _, rfl⟩, ?_⟩
  refine And.intro (fun hc9 => ?_) (fun hc9 => ?_)
  · refine sX12_zoomed_81 ?_
    have kJ53 : ∀ w52 : Int32, w52 = (if k0 = 0 then (2 : Int32) else (0 : Int32)) → ps_At mX12_zoomed (d + 9) 91 [(0, .ref x0), (2, .int x2), (3, .int x3), (5, .int x5)] [.int w52, .ref x0] g Q := by
      rintro _ rfl
      exact ps_weak (kJ11 _ (if_pos (hc9)).symm) ⟨rfl, rfl, rfl, rfl, trivial⟩
    refine And.intro (fun hc51 => ?_) (fun hc51 => ?_)
    · refine sX12_zoomed_90 ?_
      exact ps_weak (kJ53 _ (if_pos (hc51)).symm) ⟨rfl, rfl, rfl, rfl, trivial⟩
    · exact ps_weak (kJ53 _ (if_neg (hc51)).symm) ⟨rfl, rfl, rfl, rfl, trivial⟩
  · exact ps_weak (kJ11 _ (if_neg (hc9)).symm) ⟨rfl, rfl, rfl, rfl, trivial⟩
noncomputable def jX12_zoomed_68 (g : ps_G) (x0 : Nat) (x2 : Int32) (x3 : Int32) (x4 : Int32) (x5 : Int32) : Option (Int32 × ps_G) := jX12_zoomed_69 g x0 x2 x3 x4 x5 (0 : Int32)
theorem pjX12_zoomed_68 {d : Nat} {Q : ps_Rs → ps_G → Prop} {g : ps_G} {x0 : Nat} {x2 : Int32} {x3 : Int32} {x4 : Int32} {x5 : Int32} {r : Int32 × ps_G} (h : jX12_zoomed_68 g x0 x2 x3 x4 x5 = some r) (hk : Q (.inl (some (.int r.1))) r.2) : ps_At mX12_zoomed (d + 9) 68 [(0, .ref x0), (2, .int x2), (3, .int x3), (4, .int x4), (5, .int x5)] [] g Q := by
  unfold jX12_zoomed_68 at h
  refine sX12_zoomed_68 ?_
  exact ps_weak (pjX12_zoomed_69 h hk) ⟨rfl, rfl, rfl, rfl, rfl, trivial⟩
noncomputable def fX12_zoomed (g : ps_G) (x0 : Nat) (x1 : Int32) (x2 : Int32) (x3 : Int32) : Option (Int32 × ps_G) := if (x2 < 0) ∨ (x3 < 0) then (jX12_zoomed_68 g x0 x2 x3 (if ¬ (fX12_in x1 (1 : Int32) (3 : Int32)) = 0 then (0 : Int32) else (1 : Int32)) (if (if ¬ (fX12_in x1 (1 : Int32) (3 : Int32)) = 0 then (0 : Int32) else (1 : Int32)) = 0 then q_shl (1 : Int32) x1 else (1 : Int32))) else (Option.bind (q_fI 12 13 g x0) fun v54 => Option.bind (q_div (v54 - (1 : Int32)) (if (if ¬ (fX12_in x1 (1 : Int32) (3 : Int32)) = 0 then (0 : Int32) else (1 : Int32)) = 0 then q_shl (1 : Int32) x1 else (1 : Int32))) fun v55 => if v55 < x2 then (jX12_zoomed_68 g x0 x2 x3 (if ¬ (fX12_in x1 (1 : Int32) (3 : Int32)) = 0 then (0 : Int32) else (1 : Int32)) (if (if ¬ (fX12_in x1 (1 : Int32) (3 : Int32)) = 0 then (0 : Int32) else (1 : Int32)) = 0 then q_shl (1 : Int32) x1 else (1 : Int32))) else (Option.bind (q_fI 12 14 g x0) fun v57 => Option.bind (q_div (v57 - (1 : Int32)) (if (if ¬ (fX12_in x1 (1 : Int32) (3 : Int32)) = 0 then (0 : Int32) else (1 : Int32)) = 0 then q_shl (1 : Int32) x1 else (1 : Int32))) fun v58 => if v58 < x3 then (jX12_zoomed_68 g x0 x2 x3 (if ¬ (fX12_in x1 (1 : Int32) (3 : Int32)) = 0 then (0 : Int32) else (1 : Int32)) (if (if ¬ (fX12_in x1 (1 : Int32) (3 : Int32)) = 0 then (0 : Int32) else (1 : Int32)) = 0 then q_shl (1 : Int32) x1 else (1 : Int32))) else (jX12_zoomed_69 g x0 x2 x3 (if ¬ (fX12_in x1 (1 : Int32) (3 : Int32)) = 0 then (0 : Int32) else (1 : Int32)) (if (if ¬ (fX12_in x1 (1 : Int32) (3 : Int32)) = 0 then (0 : Int32) else (1 : Int32)) = 0 then q_shl (1 : Int32) x1 else (1 : Int32)) (1 : Int32))))
theorem rX12_zoomed {d : Nat} {Q : ps_Rs → ps_G → Prop} {g : ps_G} {x0 : Nat} {x1 : Int32} {x2 : Int32} {x3 : Int32} {r : Int32 × ps_G} (h : fX12_zoomed g x0 x1 x2 x3 = some r) (hk : Q (.inl (some (.int r.1))) r.2) : ps_Ok mX12_zoomed (d + 9) [.ref x0, .int x1, .int x2, .int x3] g Q := by
  unfold fX12_zoomed at h
  refine sX12_zoomed_0 ?_
  refine rX12_in rfl ?_
  have kJ3 : ∀ w2 : Int32, w2 = (if ¬ (fX12_in x1 (1 : Int32) (3 : Int32)) = 0 then (0 : Int32) else (1 : Int32)) → ps_At mX12_zoomed (d + 9) 14 [(0, .ref x0), (1, .int x1), (2, .int x2), (3, .int x3)] [.int w2] g Q := by
    rintro _ rfl
    refine sX12_zoomed_14 ?_
    have kJ6 : ∀ w5 : Int32, w5 = (if (if ¬ (fX12_in x1 (1 : Int32) (3 : Int32)) = 0 then (0 : Int32) else (1 : Int32)) = 0 then q_shl (1 : Int32) x1 else (1 : Int32)) → ps_At mX12_zoomed (d + 9) 28 [(0, .ref x0), (2, .int x2), (3, .int x3), (4, .int (if ¬ (fX12_in x1 (1 : Int32) (3 : Int32)) = 0 then (0 : Int32) else (1 : Int32)))] [.int w5] g Q := by
      rintro _ rfl
      refine sX12_zoomed_28 ?_
      have kT64 : (jX12_zoomed_68 g x0 x2 x3 (if ¬ (fX12_in x1 (1 : Int32) (3 : Int32)) = 0 then (0 : Int32) else (1 : Int32)) (if (if ¬ (fX12_in x1 (1 : Int32) (3 : Int32)) = 0 then (0 : Int32) else (1 : Int32)) = 0 then q_shl (1 : Int32) x1 else (1 : Int32))) = some r → ps_At mX12_zoomed (d + 9) 68 [(0, .ref x0), (2, .int x2), (3, .int x3), (4, .int (if ¬ (fX12_in x1 (1 : Int32) (3 : Int32)) = 0 then (0 : Int32) else (1 : Int32))), (5, .int (if (if ¬ (fX12_in x1 (1 : Int32) (3 : Int32)) = 0 then (0 : Int32) else (1 : Int32)) = 0 then q_shl (1 : Int32) x1 else (1 : Int32)))] [] g Q := fun h => by
        exact ps_weak (pjX12_zoomed_68 h hk) ⟨rfl, rfl, rfl, rfl, rfl, trivial⟩
      refine ⟨by decide, ?_⟩
      refine And.intro (fun hc7 => ?_) (fun hc7 => ?_)
      · exact ps_weak (kT64 (q_ifp (Or.inl hc7) h)) ⟨rfl, rfl, rfl, rfl, rfl, trivial⟩
      · refine And.intro (fun hc8 => ?_) (fun hc8 => ?_)
        · exact ps_weak (kT64 (q_ifp (Or.inr (hc8)) h)) ⟨rfl, rfl, rfl, rfl, rfl, trivial⟩
        · replace h := q_ifn (not_or.mpr ⟨hc7, hc8⟩) h
          replace h := q_be h
          obtain ⟨v54, hv, h⟩ := h
          replace hv := q_fI_e hv
          obtain ⟨_, cv54, dv54⟩ := hv
          replace h := q_be h
          obtain ⟨v55, hv, h⟩ := h
          replace hv := q_div_e hv
          obtain ⟨zv55, yv55⟩ := hv
          refine ⟨⟨some _, rfl⟩, _, _, cv54, dv54, zv55, _, yv55, ?_⟩
          refine And.intro (fun hc56 => ?_) (fun hc56 => ?_)
          · replace h := q_ifp (hc56) h
            exact ps_weak (pjX12_zoomed_68 h hk) ⟨rfl, rfl, rfl, rfl, rfl, trivial⟩
          · replace h := q_ifn (hc56) h
            replace h := q_be h
            obtain ⟨v57, hv, h⟩ := h
            replace hv := q_fI_e hv
            obtain ⟨_, cv57, dv57⟩ := hv
            replace h := q_be h
            obtain ⟨v58, hv, h⟩ := h
            replace hv := q_div_e hv
            obtain ⟨zv58, yv58⟩ := hv
            refine ⟨⟨some _, rfl⟩, _, _, cv57, dv57, zv58, _, yv58, ?_⟩
            refine And.intro (fun hc59 => ?_) (fun hc59 => ?_)
            · replace h := q_ifp (hc59) h
              exact ps_weak (pjX12_zoomed_68 h hk) ⟨rfl, rfl, rfl, rfl, rfl, trivial⟩
            · replace h := q_ifn (hc59) h
              exact ps_weak (pjX12_zoomed_69 h hk) ⟨rfl, rfl, rfl, rfl, rfl, trivial⟩
    refine ⟨by decide, ?_⟩
    refine And.intro (fun hc4 => ?_) (fun hc4 => ?_)
    · refine sX12_zoomed_25 ?_
      exact ps_weak (kJ6 _ (if_pos (hc4)).symm) ⟨rfl, rfl, rfl, rfl, trivial⟩
    · exact ps_weak (kJ6 _ (if_neg (hc4)).symm) ⟨rfl, rfl, rfl, rfl, trivial⟩
  refine And.intro (fun hc1 => ?_) (fun hc1 => ?_)
  · refine sX12_zoomed_13 ?_
    exact ps_weak (kJ3 _ (if_pos (hc1)).symm) ⟨rfl, rfl, rfl, rfl, trivial⟩
  · exact ps_weak (kJ3 _ (if_neg (hc1)).symm) ⟨rfl, rfl, rfl, rfl, trivial⟩
noncomputable def bX12_hash_13 (g : ps_G) (x0 : Nat) (x1 : Int32) (x2 : Int32) : Option ((Int32 × Int32) ⊕ (Int32)) := Option.bind (q_fI 12 13 g x0) fun v4 => Option.bind (q_fI 12 14 g x0) fun v5 => if (v4 * v5) ≤ x2 then (some (.inr x1)) else (Option.bind (q_fR 12 16 g x0) fun v8 => Option.bind (v8) fun a9 => Option.bind (q_aI g a9 x2) fun v10 => some (.inl (((31 : Int32) * x1) + v10, x2 + (1 : Int32))))
theorem pbX12_hash_13 {d : Nat} {Q : ps_Rs → ps_G → Prop} {g : ps_G} {x0 : Nat} {x1 : Int32} {x2 : Int32} {x : (Int32 × Int32) ⊕ (Int32)} (h : bX12_hash_13 g x0 x1 x2 = some x) (hh : ∀ s' : Int32 × Int32, x = .inl s' → ps_At mX12_hash (d + 9) 13 [(0, .ref x0), (1, .int s'.1), (2, .int s'.2)] [] g Q) (he : ∀ r' : Int32, x = .inr r' → ps_At mX12_hash (d + 9) 44 [(1, .int r')] [] g Q) : ps_At mX12_hash (d + 9) 13 [(0, .ref x0), (1, .int x1), (2, .int x2)] [] g Q := by
  unfold bX12_hash_13 at h
  refine sX12_hash_13 ?_
  replace h := q_be h
  obtain ⟨v4, hv, h⟩ := h
  replace hv := q_fI_e hv
  obtain ⟨_, cv4, dv4⟩ := hv
  replace h := q_be h
  obtain ⟨v5, hv, h⟩ := h
  replace hv := q_fI_e hv
  obtain ⟨_, cv5, dv5⟩ := hv
  refine ⟨⟨some _, rfl⟩, _, _, cv4, dv4, ⟨some _, rfl⟩, _, _, cv5, dv5, ?_⟩
  refine And.intro (fun hc6 => ?_) (fun hc6 => ?_)
  · replace h := q_ifp (hc6) h
    exact ps_weak (he x1 (Option.some.inj h).symm) ⟨rfl, trivial⟩
  · replace h := q_ifn (hc6) h
    replace h := q_be h
    obtain ⟨v8, hv, h⟩ := h
    replace hv := q_fR_e hv
    obtain ⟨_, cv8, dv8⟩ := hv
    replace h := q_be h
    obtain ⟨a9, ea9, h⟩ := h
    subst ea9
    replace h := q_be h
    obtain ⟨v10, hv, h⟩ := h
    replace hv := q_aI_e hv
    obtain ⟨_, _, cv10, iv10, yv10⟩ := hv
    refine ⟨⟨some _, rfl⟩, _, _, cv8, dv8, _, _, cv10, iv10, _, yv10, by decide, by decide, ?_⟩
    exact ps_weak (hh (((31 : Int32) * x1) + v10, x2 + (1 : Int32)) (Option.some.inj h).symm) ⟨rfl, rfl, rfl, trivial⟩
noncomputable def fX12_hash (g : ps_G) (x0 : Nat) : Option (Int32 × ps_G) := Option.bind (q_sI 12 0 g x0 (0 : Int32)) fun g1 => Option.bind (q_ob 12 g1 x0) fun u2 => Option.bind (fX12_composeAll g1 x0) fun v3 => Option.bind (q_lp (fun s => bX12_hash_13 v3 x0 s.1 s.2) ((0 : Int32), (0 : Int32))) fun s13 => some (s13, v3)
theorem rX12_hash {d : Nat} {Q : ps_Rs → ps_G → Prop} {g : ps_G} {x0 : Nat} {r : Int32 × ps_G} (h : fX12_hash g x0 = some r) (hk : Q (.inl (some (.int r.1))) r.2) : ps_Ok mX12_hash (d + 9) [.ref x0] g Q := by
  unfold fX12_hash at h
  refine sX12_hash_0 ?_
  replace h := q_be h
  obtain ⟨g1, hv, h⟩ := h
  replace hv := q_sI_e hv
  obtain ⟨_, cg1, dg1, yg1⟩ := hv
  replace h := q_be h
  obtain ⟨u2, hv, h⟩ := h
  replace hv := q_ob_e hv
  obtain ⟨_, cu2⟩ := hv
  replace h := q_be h
  obtain ⟨v3, hv, h⟩ := h
  refine ⟨⟨some _, rfl⟩, _, cg1, dg1, rfl, rfl, _, yg1, ⟨some _, rfl⟩, ⟨_, cu2⟩, ?_⟩
  refine rX12_composeAll hv ?_
  refine ⟨by decide, by decide, ?_⟩
  replace h := q_be h
  obtain ⟨s13, hl, h⟩ := h
  refine ps_weak (q_lp_ok hl (fun s => ps_At mX12_hash (d + 9) 13 [(0, .ref x0), (1, .int s.1), (2, .int s.2)] [] v3 Q) (fun r => ps_At mX12_hash (d + 9) 44 [(1, .int r)] [] v3 Q) (fun s x hb hh he => pbX12_hash_13 hb hh he) ?_) ⟨rfl, rfl, rfl, trivial⟩
  refine (?_ : ps_At mX12_hash (d + 9) 44 [(1, .int s13)] [] v3 Q)
  refine sX12_hash_44 ?_
  cases h
  exact ⟨rfl, hk⟩
def jX12_reachOf_39 (k0 : Int32) : Int32 := k0
theorem pjX12_reachOf_39 {d : Nat} {Q : ps_Rs → ps_G → Prop} {g : ps_G} {k0 : Int32} {r : Int32} (h : jX12_reachOf_39 k0 = r) (hk : Q (.inl (some (.int r))) g) : ps_At mX12_reachOf d 39 [] [.int k0] g Q := by
  unfold jX12_reachOf_39 at h
  refine sX12_reachOf_39 ?_
  subst h
  exact ⟨rfl, hk⟩
def jX12_reachOf_23  : Int32 := jX12_reachOf_39 (1 : Int32)
theorem pjX12_reachOf_23 {d : Nat} {Q : ps_Rs → ps_G → Prop} {g : ps_G}  {r : Int32} (h : jX12_reachOf_23  = r) (hk : Q (.inl (some (.int r))) g) : ps_At mX12_reachOf d 23 [] [] g Q := by
  unfold jX12_reachOf_23 at h
  refine sX12_reachOf_23 ?_
  exact ps_weak (pjX12_reachOf_39 h hk) trivial
def fX12_reachOf (x0 : Int32) (x1 : Int32) : Int32 := if ¬ x0 = 0 then (if ¬ (x0 ≤ 0) ∧ (x0 < (5 : Int32)) then (jX12_reachOf_23) else (if ¬ x0 = (10 : Int32) then (jX12_reachOf_39 (if ¬ x0 = (5 : Int32) then (0 : Int32) else x1 - (1 : Int32))) else (jX12_reachOf_23))) else (jX12_reachOf_39 x1)
theorem rX12_reachOf {d : Nat} {Q : ps_Rs → ps_G → Prop} {g : ps_G} {x0 : Int32} {x1 : Int32} {r : Int32} (h : fX12_reachOf x0 x1 = r) (hk : Q (.inl (some (.int r))) g) : ps_Ok mX12_reachOf d [.int x0, .int x1] g Q := by
  unfold fX12_reachOf at h
  refine sX12_reachOf_0 ?_
  refine And.intro (fun hc1 => ?_) (fun hc1 => ?_)
  · replace h := q_ifp (hc1) h
    refine sX12_reachOf_8 ?_
    have kF16 : (if ¬ x0 = (10 : Int32) then (jX12_reachOf_39 (if ¬ x0 = (5 : Int32) then (0 : Int32) else x1 - (1 : Int32))) else (jX12_reachOf_23)) = r → ps_At mX12_reachOf d 17 [(0, .int x0), (1, .int x1)] [] g Q := fun h => by
      refine sX12_reachOf_17 ?_
      refine And.intro (fun hc6 => ?_) (fun hc6 => ?_)
      · replace h := q_ifp (hc6) h
        refine sX12_reachOf_27 ?_
        have kJ12 : ∀ w11 : Int32, w11 = (if ¬ x0 = (5 : Int32) then (0 : Int32) else x1 - (1 : Int32)) → ps_At mX12_reachOf d 39 [] [.int w11] g Q := by
          rintro _ rfl
          exact ps_weak (pjX12_reachOf_39 h hk) trivial
        refine And.intro (fun hc10 => ?_) (fun hc10 => ?_)
        · refine sX12_reachOf_38 ?_
          exact ps_weak (kJ12 _ (if_pos (hc10)).symm) trivial
        · exact ps_weak (kJ12 _ (if_neg (hc10)).symm) trivial
      · replace h := q_ifn (hc6) h
        exact ps_weak (pjX12_reachOf_23 h hk) trivial
    refine And.intro (fun hc4 => ?_) (fun hc4 => ?_)
    · exact ps_weak (kF16 (q_ifn (fun z => z.1 hc4) h)) ⟨rfl, rfl, trivial⟩
    · refine And.intro (fun hc5 => ?_) (fun hc5 => ?_)
      · replace h := q_ifp (⟨hc4, hc5⟩) h
        exact ps_weak (pjX12_reachOf_23 h hk) trivial
      · exact ps_weak (kF16 (q_ifn (fun z => hc5 z.2) h)) ⟨rfl, rfl, trivial⟩
  · replace h := q_ifn (hc1) h
    exact ps_weak (pjX12_reachOf_39 h hk) trivial
noncomputable def jX12_reach_39_4 (g : ps_G) (x0 : Nat) (x1 : Int32) (x2 : Int32) : Option ((Int32 × Int32) ⊕ (Int32)) := some (.inl (x1, x2 + (1 : Int32)))
theorem pjX12_reach_39_4 {d : Nat} {Q : ps_Rs → ps_G → Prop} {g : ps_G} {x0 : Nat} {x1 : Int32} {x2 : Int32} {x : (Int32 × Int32) ⊕ (Int32)} (h : jX12_reach_39_4 g x0 x1 x2 = some x) (hh : ∀ s' : Int32 × Int32, x = .inl s' → ps_At mX12_reach (d + 3) 4 [(0, .ref x0), (1, .int s'.1), (2, .int s'.2)] [] g Q) (he : ∀ r' : Int32, x = .inr r' → ps_At mX12_reach (d + 3) 45 [(1, .int r')] [] g Q) : ps_At mX12_reach (d + 3) 39 [(0, .ref x0), (1, .int x1), (2, .int x2)] [] g Q := by
  unfold jX12_reach_39_4 at h
  refine sX12_reach_39 ?_
  refine ⟨by decide, ?_⟩
  exact ps_weak (hh (x1, x2 + (1 : Int32)) (Option.some.inj h).symm) ⟨rfl, rfl, rfl, trivial⟩
noncomputable def bX12_reach_4 (g : ps_G) (x0 : Nat) (x1 : Int32) (x2 : Int32) : Option ((Int32 × Int32) ⊕ (Int32)) := if (30 : Int32) ≤ x2 then (some (.inr x1)) else (Option.bind (q_ob 12 g x0) fun u3 => Option.bind (fX12_is g x0 x2 (5 : Int32)) fun v4 => if v4 = 0 then (jX12_reach_39_4 g x0 x1 x2) else (Option.bind (q_ob 12 g x0) fun u7 => Option.bind (fX12_get g x0 x2 (11 : Int32)) fun v8 => Option.bind (q_ob 12 g x0) fun u9 => Option.bind (fX12_get g x0 x2 (12 : Int32)) fun v10 => jX12_reach_39_4 g x0 (x1 + (fX12_reachOf v8 v10)) x2))
theorem pbX12_reach_4 {d : Nat} {Q : ps_Rs → ps_G → Prop} {g : ps_G} {x0 : Nat} {x1 : Int32} {x2 : Int32} {x : (Int32 × Int32) ⊕ (Int32)} (h : bX12_reach_4 g x0 x1 x2 = some x) (hh : ∀ s' : Int32 × Int32, x = .inl s' → ps_At mX12_reach (d + 3) 4 [(0, .ref x0), (1, .int s'.1), (2, .int s'.2)] [] g Q) (he : ∀ r' : Int32, x = .inr r' → ps_At mX12_reach (d + 3) 45 [(1, .int r')] [] g Q) : ps_At mX12_reach (d + 3) 4 [(0, .ref x0), (1, .int x1), (2, .int x2)] [] g Q := by
  unfold bX12_reach_4 at h
  refine sX12_reach_4 ?_
  refine And.intro (fun hc1 => ?_) (fun hc1 => ?_)
  · replace h := q_ifp (hc1) h
    exact ps_weak (he x1 (Option.some.inj h).symm) ⟨rfl, trivial⟩
  · replace h := q_ifn (hc1) h
    replace h := q_be h
    obtain ⟨u3, hv, h⟩ := h
    replace hv := q_ob_e hv
    obtain ⟨_, cu3⟩ := hv
    replace h := q_be h
    obtain ⟨v4, hv, h⟩ := h
    refine ⟨⟨some _, rfl⟩, ⟨_, cu3⟩, ?_⟩
    refine rX12_is hv ?_
    refine And.intro (fun hc5 => ?_) (fun hc5 => ?_)
    · replace h := q_ifp (hc5) h
      exact ps_weak (pjX12_reach_39_4 h hh he) ⟨rfl, rfl, rfl, trivial⟩
    · replace h := q_ifn (hc5) h
      replace h := q_be h
      obtain ⟨u7, hv, h⟩ := h
      replace hv := q_ob_e hv
      obtain ⟨_, cu7⟩ := hv
      replace h := q_be h
      obtain ⟨v8, hv, h⟩ := h
      refine ⟨⟨some _, rfl⟩, ⟨_, cu7⟩, ?_⟩
      refine rX12_get hv ?_
      replace h := q_be h
      obtain ⟨u9, hv, h⟩ := h
      replace hv := q_ob_e hv
      obtain ⟨_, cu9⟩ := hv
      replace h := q_be h
      obtain ⟨v10, hv, h⟩ := h
      refine ⟨⟨some _, rfl⟩, ⟨_, cu9⟩, ?_⟩
      refine rX12_get hv ?_
      refine rX12_reachOf rfl ?_
      refine ⟨by decide, ?_⟩
      exact ps_weak (pjX12_reach_39_4 h hh he) ⟨rfl, rfl, rfl, trivial⟩
noncomputable def fX12_reach (g : ps_G) (x0 : Nat) : Option (Int32) := Option.bind (q_lp (fun s => bX12_reach_4 g x0 s.1 s.2) ((0 : Int32), (0 : Int32))) fun s15 => some s15
theorem rX12_reach {d : Nat} {Q : ps_Rs → ps_G → Prop} {g : ps_G} {x0 : Nat} {r : Int32} (h : fX12_reach g x0 = some r) (hk : Q (.inl (some (.int r))) g) : ps_Ok mX12_reach (d + 3) [.ref x0] g Q := by
  unfold fX12_reach at h
  refine sX12_reach_0 ?_
  refine ⟨by decide, by decide, ?_⟩
  replace h := q_be h
  obtain ⟨s15, hl, h⟩ := h
  refine ps_weak (q_lp_ok hl (fun s => ps_At mX12_reach (d + 3) 4 [(0, .ref x0), (1, .int s.1), (2, .int s.2)] [] g Q) (fun r => ps_At mX12_reach (d + 3) 45 [(1, .int r)] [] g Q) (fun s x hb hh he => pbX12_reach_4 hb hh he) ?_) ⟨rfl, rfl, rfl, trivial⟩
  refine (?_ : ps_At mX12_reach (d + 3) 45 [(1, .int s15)] [] g Q)
  refine sX12_reach_45 ?_
  cases h
  exact ⟨rfl, hk⟩
noncomputable def bX12_count_76 (g : ps_G) (x0 : Nat) (x2 : Int32) (x3 : Int32) : Option ((Int32 × Int32) ⊕ (Int32)) := if (30 : Int32) ≤ x3 then (some (.inr x2)) else (Option.bind (q_ob 12 g x0) fun u9 => Option.bind (fX12_isLayer g x0 x3) fun v10 => some (.inl ((if v10 = 0 then x2 else x2 + (1 : Int32)), x3 + (1 : Int32))))
theorem pbX12_count_76 {d : Nat} {Q : ps_Rs → ps_G → Prop} {g : ps_G} {x0 : Nat} {x2 : Int32} {x3 : Int32} {x : (Int32 × Int32) ⊕ (Int32)} (h : bX12_count_76 g x0 x2 x3 = some x) (hh : ∀ s' : Int32 × Int32, x = .inl s' → ps_At mX12_count (d + 4) 76 [(0, .ref x0), (2, .int s'.1), (3, .int s'.2)] [] g Q) (he : ∀ r' : Int32, x = .inr r' → ps_At mX12_count (d + 4) 104 [(2, .int r')] [] g Q) : ps_At mX12_count (d + 4) 76 [(0, .ref x0), (2, .int x2), (3, .int x3)] [] g Q := by
  unfold bX12_count_76 at h
  refine sX12_count_76 ?_
  refine And.intro (fun hc7 => ?_) (fun hc7 => ?_)
  · replace h := q_ifp (hc7) h
    exact ps_weak (he x2 (Option.some.inj h).symm) ⟨rfl, trivial⟩
  · replace h := q_ifn (hc7) h
    replace h := q_be h
    obtain ⟨u9, hv, h⟩ := h
    replace hv := q_ob_e hv
    obtain ⟨_, cu9⟩ := hv
    replace h := q_be h
    obtain ⟨v10, hv, h⟩ := h
    refine ⟨⟨some _, rfl⟩, ⟨_, cu9⟩, ?_⟩
    refine rX12_isLayer hv ?_
    have kJ13 : ∀ w12 : Int32, w12 = (if v10 = 0 then x2 else x2 + (1 : Int32)) → ps_At mX12_count (d + 4) 97 [(0, .ref x0), (3, .int x3)] [.int w12] g Q := by
      rintro _ rfl
      refine sX12_count_97 ?_
      refine ⟨by decide, by decide, ?_⟩
      exact ps_weak (hh ((if v10 = 0 then x2 else x2 + (1 : Int32)), x3 + (1 : Int32)) (Option.some.inj h).symm) ⟨rfl, rfl, rfl, trivial⟩
    refine And.intro (fun hc11 => ?_) (fun hc11 => ?_)
    · refine sX12_count_96 ?_
      exact ps_weak (kJ13 _ (if_pos (hc11)).symm) ⟨rfl, rfl, trivial⟩
    · exact ps_weak (kJ13 _ (if_neg (hc11)).symm) ⟨rfl, rfl, trivial⟩
noncomputable def bX12_count_130 (g : ps_G) (x0 : Nat) (x2 : Int32) (x3 : Int32) : Option ((Int32 × Int32) ⊕ (Int32)) := if (9 : Int32) ≤ x3 then (some (.inr x2)) else (Option.bind (q_fR 12 21 g x0) fun v27 => Option.bind (v27) fun a28 => Option.bind (q_aB g a28 x3) fun v29 => some (.inl ((if v29 = 0 then x2 else x2 + (1 : Int32)), x3 + (1 : Int32))))
theorem pbX12_count_130 {d : Nat} {Q : ps_Rs → ps_G → Prop} {g : ps_G} {x0 : Nat} {x2 : Int32} {x3 : Int32} {x : (Int32 × Int32) ⊕ (Int32)} (h : bX12_count_130 g x0 x2 x3 = some x) (hh : ∀ s' : Int32 × Int32, x = .inl s' → ps_At mX12_count (d + 4) 130 [(0, .ref x0), (2, .int s'.1), (3, .int s'.2)] [] g Q) (he : ∀ r' : Int32, x = .inr r' → ps_At mX12_count (d + 4) 159 [(2, .int r')] [] g Q) : ps_At mX12_count (d + 4) 130 [(0, .ref x0), (2, .int x2), (3, .int x3)] [] g Q := by
  unfold bX12_count_130 at h
  refine sX12_count_130 ?_
  refine And.intro (fun hc25 => ?_) (fun hc25 => ?_)
  · replace h := q_ifp (hc25) h
    exact ps_weak (he x2 (Option.some.inj h).symm) ⟨rfl, trivial⟩
  · replace h := q_ifn (hc25) h
    replace h := q_be h
    obtain ⟨v27, hv, h⟩ := h
    replace hv := q_fR_e hv
    obtain ⟨_, cv27, dv27⟩ := hv
    replace h := q_be h
    obtain ⟨a28, ea28, h⟩ := h
    subst ea28
    replace h := q_be h
    obtain ⟨v29, hv, h⟩ := h
    replace hv := q_aB_e hv
    obtain ⟨_, _, cv29, iv29, yv29⟩ := hv
    have kJ32 : ∀ w31 : Int32, w31 = (if v29 = 0 then x2 else x2 + (1 : Int32)) → ps_At mX12_count (d + 4) 152 [(0, .ref x0), (3, .int x3)] [.int w31] g Q := by
      rintro _ rfl
      refine sX12_count_152 ?_
      refine ⟨by decide, by decide, ?_⟩
      exact ps_weak (hh ((if v29 = 0 then x2 else x2 + (1 : Int32)), x3 + (1 : Int32)) (Option.some.inj h).symm) ⟨rfl, rfl, rfl, trivial⟩
    refine ⟨⟨some _, rfl⟩, _, _, cv27, dv27, _, _, cv29, iv29, _, yv29, ?_⟩
    refine And.intro (fun hc30 => ?_) (fun hc30 => ?_)
    · refine sX12_count_151 ?_
      exact ps_weak (kJ32 _ (if_pos (hc30)).symm) ⟨rfl, rfl, trivial⟩
    · exact ps_weak (kJ32 _ (if_neg (hc30)).symm) ⟨rfl, rfl, trivial⟩
noncomputable def fX12_count (g : ps_G) (x0 : Nat) (x1 : Int32) : Option (Int32 × ps_G) := Option.bind (q_sI 12 0 g x0 (0 : Int32)) fun g1 => if x1 = 0 then (Option.bind (q_fI 12 13 g1 x0) fun v3 => some (v3, g1)) else (if x1 = 1 then (Option.bind (q_fI 12 14 g1 x0) fun v5 => some (v5, g1)) else (if x1 = 2 then (Option.bind (q_lp (fun s => bX12_count_76 g1 x0 s.1 s.2) ((0 : Int32), (0 : Int32))) fun s16 => some (s16, g1)) else (if x1 = 3 then (Option.bind (q_fI 12 11 g1 x0) fun v18 => some (v18, g1)) else (if x1 = 4 then (Option.bind (q_fI 12 12 g1 x0) fun v20 => Option.bind (q_fI 12 11 g1 x0) fun v21 => some ((v20 - (1 : Int32)) - v21, g1)) else (if x1 = 5 then (Option.bind (q_fI 12 23 g1 x0) fun v23 => some (v23, g1)) else (if x1 = 6 then (Option.bind (q_lp (fun s => bX12_count_130 g1 x0 s.1 s.2) ((0 : Int32), (0 : Int32))) fun s35 => some (s35, g1)) else (if x1 = 7 then (Option.bind (q_fI 12 43 g1 x0) fun v37 => some (v37, g1)) else (if x1 = 8 then (Option.bind (q_fI 12 2 g1 x0) fun v39 => some (v39, g1)) else (if x1 = 9 then (Option.bind (q_ob 12 g1 x0) fun u41 => Option.bind (fX12_reach g1 x0) fun v42 => some (v42, g1)) else (some ((-1 : Int32), g1)))))))))))
theorem rX12_count {d : Nat} {Q : ps_Rs → ps_G → Prop} {g : ps_G} {x0 : Nat} {x1 : Int32} {r : Int32 × ps_G} (h : fX12_count g x0 x1 = some r) (hk : Q (.inl (some (.int r.1))) r.2) : ps_Ok mX12_count (d + 4) [.ref x0, .int x1] g Q := by
  unfold fX12_count at h
  refine sX12_count_0 ?_
  replace h := q_be h
  obtain ⟨g1, hv, h⟩ := h
  replace hv := q_sI_e hv
  obtain ⟨_, cg1, dg1, yg1⟩ := hv
  refine ⟨⟨some _, rfl⟩, _, cg1, dg1, rfl, rfl, _, yg1, by decide, ?_⟩
  refine sX12_count_8 ?_
  by_cases hc2 : x1 = 0
  · replace h := q_ifp hc2 h
    have eT : ps_tsel 8 168 0 9 #[56, 61, 66, 98, 103, 115, 120, 153, 158, 163] x1 = 64 := by
      rw [hc2]; decide +kernel
    refine ps_at_eq eT ?_
    refine sX12_count_64 ?_
    replace h := q_be h
    obtain ⟨v3, hv, h⟩ := h
    replace hv := q_fI_e hv
    obtain ⟨_, cv3, dv3⟩ := hv
    cases h
    exact ⟨⟨some _, rfl⟩, _, _, cv3, dv3, rfl, hk⟩
  replace h := q_ifn hc2 h
  by_cases hc4 : x1 = 1
  · replace h := q_ifp hc4 h
    have eT : ps_tsel 8 168 0 9 #[56, 61, 66, 98, 103, 115, 120, 153, 158, 163] x1 = 69 := by
      rw [hc4]; decide +kernel
    refine ps_at_eq eT ?_
    refine sX12_count_69 ?_
    replace h := q_be h
    obtain ⟨v5, hv, h⟩ := h
    replace hv := q_fI_e hv
    obtain ⟨_, cv5, dv5⟩ := hv
    cases h
    exact ⟨⟨some _, rfl⟩, _, _, cv5, dv5, rfl, hk⟩
  replace h := q_ifn hc4 h
  by_cases hc6 : x1 = 2
  · replace h := q_ifp hc6 h
    have eT : ps_tsel 8 168 0 9 #[56, 61, 66, 98, 103, 115, 120, 153, 158, 163] x1 = 74 := by
      rw [hc6]; decide +kernel
    refine ps_at_eq eT ?_
    refine sX12_count_74 ?_
    refine ⟨by decide, ?_⟩
    replace h := q_be h
    obtain ⟨s16, hl, h⟩ := h
    refine ps_weak (q_lp_ok hl (fun s => ps_At mX12_count (d + 4) 76 [(0, .ref x0), (2, .int s.1), (3, .int s.2)] [] g1 Q) (fun r => ps_At mX12_count (d + 4) 104 [(2, .int r)] [] g1 Q) (fun s x hb hh he => pbX12_count_76 hb hh he) ?_) ⟨rfl, rfl, rfl, trivial⟩
    refine (?_ : ps_At mX12_count (d + 4) 104 [(2, .int s16)] [] g1 Q)
    refine sX12_count_104 ?_
    cases h
    exact ⟨rfl, hk⟩
  replace h := q_ifn hc6 h
  by_cases hc17 : x1 = 3
  · replace h := q_ifp hc17 h
    have eT : ps_tsel 8 168 0 9 #[56, 61, 66, 98, 103, 115, 120, 153, 158, 163] x1 = 106 := by
      rw [hc17]; decide +kernel
    refine ps_at_eq eT ?_
    refine sX12_count_106 ?_
    replace h := q_be h
    obtain ⟨v18, hv, h⟩ := h
    replace hv := q_fI_e hv
    obtain ⟨_, cv18, dv18⟩ := hv
    cases h
    exact ⟨⟨some _, rfl⟩, _, _, cv18, dv18, rfl, hk⟩
  replace h := q_ifn hc17 h
  by_cases hc19 : x1 = 4
  · replace h := q_ifp hc19 h
    have eT : ps_tsel 8 168 0 9 #[56, 61, 66, 98, 103, 115, 120, 153, 158, 163] x1 = 111 := by
      rw [hc19]; decide +kernel
    refine ps_at_eq eT ?_
    refine sX12_count_111 ?_
    replace h := q_be h
    obtain ⟨v20, hv, h⟩ := h
    replace hv := q_fI_e hv
    obtain ⟨_, cv20, dv20⟩ := hv
    replace h := q_be h
    obtain ⟨v21, hv, h⟩ := h
    replace hv := q_fI_e hv
    obtain ⟨_, cv21, dv21⟩ := hv
    cases h
    exact ⟨⟨some _, rfl⟩, _, _, cv20, dv20, ⟨some _, rfl⟩, _, _, cv21, dv21, rfl, hk⟩
  replace h := q_ifn hc19 h
  by_cases hc22 : x1 = 5
  · replace h := q_ifp hc22 h
    have eT : ps_tsel 8 168 0 9 #[56, 61, 66, 98, 103, 115, 120, 153, 158, 163] x1 = 123 := by
      rw [hc22]; decide +kernel
    refine ps_at_eq eT ?_
    refine sX12_count_123 ?_
    replace h := q_be h
    obtain ⟨v23, hv, h⟩ := h
    replace hv := q_fI_e hv
    obtain ⟨_, cv23, dv23⟩ := hv
    cases h
    exact ⟨⟨some _, rfl⟩, _, _, cv23, dv23, rfl, hk⟩
  replace h := q_ifn hc22 h
  by_cases hc24 : x1 = 6
  · replace h := q_ifp hc24 h
    have eT : ps_tsel 8 168 0 9 #[56, 61, 66, 98, 103, 115, 120, 153, 158, 163] x1 = 128 := by
      rw [hc24]; decide +kernel
    refine ps_at_eq eT ?_
    refine sX12_count_128 ?_
    refine ⟨by decide, ?_⟩
    replace h := q_be h
    obtain ⟨s35, hl, h⟩ := h
    refine ps_weak (q_lp_ok hl (fun s => ps_At mX12_count (d + 4) 130 [(0, .ref x0), (2, .int s.1), (3, .int s.2)] [] g1 Q) (fun r => ps_At mX12_count (d + 4) 159 [(2, .int r)] [] g1 Q) (fun s x hb hh he => pbX12_count_130 hb hh he) ?_) ⟨rfl, rfl, rfl, trivial⟩
    refine (?_ : ps_At mX12_count (d + 4) 159 [(2, .int s35)] [] g1 Q)
    refine sX12_count_159 ?_
    cases h
    exact ⟨rfl, hk⟩
  replace h := q_ifn hc24 h
  by_cases hc36 : x1 = 7
  · replace h := q_ifp hc36 h
    have eT : ps_tsel 8 168 0 9 #[56, 61, 66, 98, 103, 115, 120, 153, 158, 163] x1 = 161 := by
      rw [hc36]; decide +kernel
    refine ps_at_eq eT ?_
    refine sX12_count_161 ?_
    replace h := q_be h
    obtain ⟨v37, hv, h⟩ := h
    replace hv := q_fI_e hv
    obtain ⟨_, cv37, dv37⟩ := hv
    cases h
    exact ⟨⟨some _, rfl⟩, _, _, cv37, dv37, rfl, hk⟩
  replace h := q_ifn hc36 h
  by_cases hc38 : x1 = 8
  · replace h := q_ifp hc38 h
    have eT : ps_tsel 8 168 0 9 #[56, 61, 66, 98, 103, 115, 120, 153, 158, 163] x1 = 166 := by
      rw [hc38]; decide +kernel
    refine ps_at_eq eT ?_
    refine sX12_count_166 ?_
    replace h := q_be h
    obtain ⟨v39, hv, h⟩ := h
    replace hv := q_fI_e hv
    obtain ⟨_, cv39, dv39⟩ := hv
    cases h
    exact ⟨⟨some _, rfl⟩, _, _, cv39, dv39, rfl, hk⟩
  replace h := q_ifn hc38 h
  by_cases hc40 : x1 = 9
  · replace h := q_ifp hc40 h
    have eT : ps_tsel 8 168 0 9 #[56, 61, 66, 98, 103, 115, 120, 153, 158, 163] x1 = 171 := by
      rw [hc40]; decide +kernel
    refine ps_at_eq eT ?_
    refine sX12_count_171 ?_
    replace h := q_be h
    obtain ⟨u41, hv, h⟩ := h
    replace hv := q_ob_e hv
    obtain ⟨_, cu41⟩ := hv
    replace h := q_be h
    obtain ⟨v42, hv, h⟩ := h
    refine ⟨⟨some _, rfl⟩, ⟨_, cu41⟩, ?_⟩
    refine rX12_reach hv ?_
    cases h
    exact ⟨rfl, hk⟩
  replace h := q_ifn hc40 h
  have eD : ps_tsel 8 168 0 9 #[56, 61, 66, 98, 103, 115, 120, 153, 158, 163] x1 = 176 := by
    refine q_tsd (by decide +kernel) (fun z h1 h2 => ?_)
    have hz : z = 0 ∨ z = 1 ∨ z = 2 ∨ z = 3 ∨ z = 4 ∨ z = 5 ∨ z = 6 ∨ z = 7 ∨ z = 8 ∨ z = 9 := by omega
    rcases hz with rfl | rfl | rfl | rfl | rfl | rfl | rfl | rfl | rfl | rfl
    · exact Or.inl (q_tsx (v := 0) (fun z => hc2 z))
    · exact Or.inl (q_tsx (v := 1) (fun z => hc4 z))
    · exact Or.inl (q_tsx (v := 2) (fun z => hc6 z))
    · exact Or.inl (q_tsx (v := 3) (fun z => hc17 z))
    · exact Or.inl (q_tsx (v := 4) (fun z => hc19 z))
    · exact Or.inl (q_tsx (v := 5) (fun z => hc22 z))
    · exact Or.inl (q_tsx (v := 6) (fun z => hc24 z))
    · exact Or.inl (q_tsx (v := 7) (fun z => hc36 z))
    · exact Or.inl (q_tsx (v := 8) (fun z => hc38 z))
    · exact Or.inl (q_tsx (v := 9) (fun z => hc40 z))
  refine ps_at_eq eD ?_
  refine sX12_count_176 ?_
  cases h
  exact ⟨rfl, hk⟩
