noncomputable def jX2_emit_49 (g : ps_G) : Option (ps_G) := some g
theorem pjX2_emit_49 {d : Nat} {Q : ps_Rs → ps_G → Prop} {g : ps_G}  {r : ps_G} (h : jX2_emit_49 g = some r) (hk : Q (.inl none) r) : ps_At mX2_emit d 49 [] [] g Q := by
  unfold jX2_emit_49 at h
  refine sX2_emit_49 ?_
  cases h
  exact ⟨rfl, rfl, hk⟩
noncomputable def jX2_emit_21 (g : ps_G) (x0 : Nat) : Option (ps_G) := Option.bind (q_sB 2 3 g x0 (1 : Int32)) fun g4 => jX2_emit_49 g4
theorem pjX2_emit_21 {d : Nat} {Q : ps_Rs → ps_G → Prop} {g : ps_G} {x0 : Nat} {r : ps_G} (h : jX2_emit_21 g x0 = some r) (hk : Q (.inl none) r) : ps_At mX2_emit d 21 [(0, .ref x0)] [] g Q := by
  unfold jX2_emit_21 at h
  refine sX2_emit_21 ?_
  replace h := q_be h
  obtain ⟨g4, hv, h⟩ := h
  replace hv := q_sB_e hv
  obtain ⟨_, cg4, dg4, ng4, yg4⟩ := hv
  refine ⟨⟨some _, rfl⟩, _, cg4, dg4, ng4.1, ng4.2, _, yg4, ?_⟩
  exact ps_weak (pjX2_emit_49 h hk) trivial
noncomputable def fX2_emit (g : ps_G) (x0 : Nat) (x1 : Int32) : Option (ps_G) := Option.bind (q_fI 2 5 g x0) fun v1 => Option.bind (q_fI 2 6 g x0) fun v2 => if v2 ≤ v1 then (jX2_emit_21 g x0) else (Option.bind (q_fI 2 5 g x0) fun v5 => if v5 < (2328 : Int32) then (Option.bind (q_fR 2 4 g x0) fun v8 => Option.bind (v8) fun a9 => Option.bind (q_fI 2 5 g x0) fun v10 => Option.bind (q_wI g a9 v10 x1) fun g11 => Option.bind (q_fI 2 5 g11 x0) fun v12 => Option.bind (q_sI 2 5 g11 x0 (v12 + (1 : Int32))) fun g13 => jX2_emit_49 g13) else (jX2_emit_21 g x0))
theorem rX2_emit {d : Nat} {Q : ps_Rs → ps_G → Prop} {g : ps_G} {x0 : Nat} {x1 : Int32} {r : ps_G} (h : fX2_emit g x0 x1 = some r) (hk : Q (.inl none) r) : ps_Ok mX2_emit d [.ref x0, .int x1] g Q := by
  unfold fX2_emit at h
  refine sX2_emit_0 ?_
  replace h := q_be h
  obtain ⟨v1, hv, h⟩ := h
  replace hv := q_fI_e hv
  obtain ⟨_, cv1, dv1⟩ := hv
  replace h := q_be h
  obtain ⟨v2, hv, h⟩ := h
  replace hv := q_fI_e hv
  obtain ⟨_, cv2, dv2⟩ := hv
  refine ⟨⟨some _, rfl⟩, _, _, cv1, dv1, ⟨some _, rfl⟩, _, _, cv2, dv2, ?_⟩
  refine And.intro (fun hc3 => ?_) (fun hc3 => ?_)
  · replace h := q_ifp (hc3) h
    exact ps_weak (pjX2_emit_21 h hk) ⟨rfl, trivial⟩
  · replace h := q_ifn (hc3) h
    replace h := q_be h
    obtain ⟨v5, hv, h⟩ := h
    replace hv := q_fI_e hv
    obtain ⟨_, cv5, dv5⟩ := hv
    refine ⟨⟨some _, rfl⟩, _, _, cv5, dv5, ?_⟩
    refine And.intro (fun hc6 => ?_) (fun hc6 => ?_)
    · replace h := q_ifp (hc6) h
      refine sX2_emit_29 ?_
      replace h := q_be h
      obtain ⟨v8, hv, h⟩ := h
      replace hv := q_fR_e hv
      obtain ⟨_, cv8, dv8⟩ := hv
      replace h := q_be h
      obtain ⟨a9, ea9, h⟩ := h
      subst ea9
      replace h := q_be h
      obtain ⟨v10, hv, h⟩ := h
      replace hv := q_fI_e hv
      obtain ⟨_, cv10, dv10⟩ := hv
      replace h := q_be h
      obtain ⟨g11, hv, h⟩ := h
      replace hv := q_wI_e hv
      obtain ⟨_, _, cg11, pg11, ig11, yg11⟩ := hv
      replace h := q_be h
      obtain ⟨v12, hv, h⟩ := h
      replace hv := q_fI_e hv
      obtain ⟨_, cv12, dv12⟩ := hv
      replace h := q_be h
      obtain ⟨g13, hv, h⟩ := h
      replace hv := q_sI_e hv
      obtain ⟨_, cg13, dg13, yg13⟩ := hv
      refine ⟨⟨some _, rfl⟩, _, _, cv8, dv8, ⟨some _, rfl⟩, _, _, cv10, dv10, _, _, cg11, pg11, ig11, _, yg11, ⟨some _, rfl⟩, rfl, _, _, cv12, dv12, _, cg13, dg13, rfl, rfl, _, yg13, ?_⟩
      exact ps_weak (pjX2_emit_49 h hk) trivial
    · replace h := q_ifn (hc6) h
      exact ps_weak (pjX2_emit_21 h hk) ⟨rfl, trivial⟩
noncomputable def jX2_stored_71_40 (g : ps_G) (x0 : Nat) (x1 : Int32) (x2 : Int32) : Option ((Int32 × ps_G) ⊕ (ps_G)) := some (.inl (x2 + (1 : Int32), g))
theorem pjX2_stored_71_40 {d : Nat} {Q : ps_Rs → ps_G → Prop} {g : ps_G} {x0 : Nat} {x1 : Int32} {x2 : Int32} {x : (Int32 × ps_G) ⊕ (ps_G)} (h : jX2_stored_71_40 g x0 x1 x2 = some x) (hh : ∀ s' : Int32 × ps_G, x = .inl s' → ps_At mX2_stored (d + 1) 40 [(0, .ref x0), (1, .int x1), (2, .int s'.1)] [] s'.2 Q) (he : ∀ r' : ps_G, x = .inr r' → ps_At mX2_stored (d + 1) 77 [] [] r' Q) : ps_At mX2_stored (d + 1) 71 [(0, .ref x0), (1, .int x1), (2, .int x2)] [] g Q := by
  unfold jX2_stored_71_40 at h
  refine sX2_stored_71 ?_
  refine ⟨by decide, ?_⟩
  exact ps_weak (hh (x2 + (1 : Int32), g) (Option.some.inj h).symm) ⟨rfl, rfl, rfl, trivial⟩
noncomputable def bX2_stored_40 (x0 : Nat) (x1 : Int32) (x2 : Int32) (g : ps_G) : Option ((Int32 × ps_G) ⊕ (ps_G)) := if x1 ≤ x2 then (some (.inr g)) else (Option.bind (q_fI 2 3 g x0) fun v16 => if ¬ v16 = 0 then (some (.inr g)) else (Option.bind (q_ob 2 g x0) fun u19 => q_b2 (fX2_readBits g x0 (8 : Int32)) fun v20 g21 => Option.bind (q_fI 2 3 g21 x0) fun v22 => if ¬ v22 = 0 then (jX2_stored_71_40 g21 x0 x1 x2) else (Option.bind (q_ob 2 g21 x0) fun u25 => Option.bind (fX2_emit g21 x0 v20) fun v26 => jX2_stored_71_40 v26 x0 x1 x2)))
theorem pbX2_stored_40 {d : Nat} {Q : ps_Rs → ps_G → Prop}  {x0 : Nat} {x1 : Int32} {x2 : Int32} {g : ps_G} {x : (Int32 × ps_G) ⊕ (ps_G)} (h : bX2_stored_40 x0 x1 x2 g = some x) (hh : ∀ s' : Int32 × ps_G, x = .inl s' → ps_At mX2_stored (d + 1) 40 [(0, .ref x0), (1, .int x1), (2, .int s'.1)] [] s'.2 Q) (he : ∀ r' : ps_G, x = .inr r' → ps_At mX2_stored (d + 1) 77 [] [] r' Q) : ps_At mX2_stored (d + 1) 40 [(0, .ref x0), (1, .int x1), (2, .int x2)] [] g Q := by
  unfold bX2_stored_40 at h
  refine sX2_stored_40 ?_
  refine And.intro (fun hc14 => ?_) (fun hc14 => ?_)
  · replace h := q_ifp (hc14) h
    exact ps_weak (he g (Option.some.inj h).symm) trivial
  · replace h := q_ifn (hc14) h
    replace h := q_be h
    obtain ⟨v16, hv, h⟩ := h
    replace hv := q_fI_e hv
    obtain ⟨_, cv16, dv16⟩ := hv
    refine ⟨⟨some _, rfl⟩, _, _, cv16, dv16, ?_⟩
    refine And.intro (fun hc17 => ?_) (fun hc17 => ?_)
    · replace h := q_ifp (hc17) h
      exact ps_weak (he g (Option.some.inj h).symm) trivial
    · replace h := q_ifn (hc17) h
      replace h := q_be h
      obtain ⟨u19, hv, h⟩ := h
      replace hv := q_ob_e hv
      obtain ⟨_, cu19⟩ := hv
      replace h := q_b2_e h
      obtain ⟨v20, g21, hv, h⟩ := h
      refine ⟨⟨some _, rfl⟩, ⟨_, cu19⟩, ?_⟩
      refine rX2_readBits hv ?_
      replace h := q_be h
      obtain ⟨v22, hv, h⟩ := h
      replace hv := q_fI_e hv
      obtain ⟨_, cv22, dv22⟩ := hv
      refine ⟨by decide, ⟨some _, rfl⟩, _, _, cv22, dv22, ?_⟩
      refine And.intro (fun hc23 => ?_) (fun hc23 => ?_)
      · replace h := q_ifp (hc23) h
        exact ps_weak (pjX2_stored_71_40 h hh he) ⟨rfl, rfl, rfl, trivial⟩
      · replace h := q_ifn (hc23) h
        replace h := q_be h
        obtain ⟨u25, hv, h⟩ := h
        replace hv := q_ob_e hv
        obtain ⟨_, cu25⟩ := hv
        replace h := q_be h
        obtain ⟨v26, hv, h⟩ := h
        refine ⟨⟨some _, rfl⟩, ⟨_, cu25⟩, ?_⟩
        refine rX2_emit hv ?_
        exact ps_weak (pjX2_stored_71_40 h hh he) ⟨rfl, rfl, rfl, trivial⟩
noncomputable def jX2_stored_77 (g : ps_G) : Option (ps_G) := some g
theorem pjX2_stored_77 {d : Nat} {Q : ps_Rs → ps_G → Prop} {g : ps_G}  {r : ps_G} (h : jX2_stored_77 g = some r) (hk : Q (.inl none) r) : ps_At mX2_stored (d + 1) 77 [] [] g Q := by
  unfold jX2_stored_77 at h
  refine sX2_stored_77 ?_
  cases h
  exact ⟨rfl, rfl, hk⟩
noncomputable def fX2_stored (g : ps_G) (x0 : Nat) : Option (ps_G) := Option.bind (q_ob 2 g x0) fun u1 => Option.bind (fX2_toByte g x0) fun v2 => Option.bind (q_ob 2 v2 x0) fun u3 => q_b2 (fX2_readBits v2 x0 (16 : Int32)) fun v4 g5 => Option.bind (q_fI 2 3 g5 x0) fun v6 => Option.bind (q_ob 2 g5 x0) fun u7 => q_b2 (fX2_readBits g5 x0 (16 : Int32)) fun v8 g9 => Option.bind (q_sB 2 3 g9 x0 (v6 ||| (if v8 = (v4 ^^^ (65535 : Int32)) then (0 : Int32) else (1 : Int32)))) fun g13 => Option.bind (q_lp (fun s => bX2_stored_40 x0 v4 s.1 s.2) ((0 : Int32), g13)) fun s33 => jX2_stored_77 s33
theorem rX2_stored {d : Nat} {Q : ps_Rs → ps_G → Prop} {g : ps_G} {x0 : Nat} {r : ps_G} (h : fX2_stored g x0 = some r) (hk : Q (.inl none) r) : ps_Ok mX2_stored (d + 1) [.ref x0] g Q := by
  unfold fX2_stored at h
  refine sX2_stored_0 ?_
  replace h := q_be h
  obtain ⟨u1, hv, h⟩ := h
  replace hv := q_ob_e hv
  obtain ⟨_, cu1⟩ := hv
  replace h := q_be h
  obtain ⟨v2, hv, h⟩ := h
  refine ⟨⟨some _, rfl⟩, ⟨_, cu1⟩, ?_⟩
  refine rX2_toByte hv ?_
  replace h := q_be h
  obtain ⟨u3, hv, h⟩ := h
  replace hv := q_ob_e hv
  obtain ⟨_, cu3⟩ := hv
  replace h := q_b2_e h
  obtain ⟨v4, g5, hv, h⟩ := h
  refine ⟨⟨some _, rfl⟩, ⟨_, cu3⟩, ?_⟩
  refine rX2_readBits hv ?_
  replace h := q_be h
  obtain ⟨v6, hv, h⟩ := h
  replace hv := q_fI_e hv
  obtain ⟨_, cv6, dv6⟩ := hv
  replace h := q_be h
  obtain ⟨u7, hv, h⟩ := h
  replace hv := q_ob_e hv
  obtain ⟨_, cu7⟩ := hv
  replace h := q_b2_e h
  obtain ⟨v8, g9, hv, h⟩ := h
  refine ⟨by decide, ⟨some _, rfl⟩, rfl, _, _, cv6, dv6, ⟨some _, rfl⟩, ⟨_, cu7⟩, ?_⟩
  refine rX2_readBits hv ?_
  have kJ12 : ∀ w11 : Int32, w11 = (if v8 = (v4 ^^^ (65535 : Int32)) then (0 : Int32) else (1 : Int32)) → ps_At mX2_stored (d + 1) 34 [(0, .ref x0), (1, .int v4)] [.int w11, .int v6, .ref x0] g9 Q := by
    rintro _ rfl
    refine sX2_stored_34 ?_
    replace h := q_be h
    obtain ⟨g13, hv, h⟩ := h
    replace hv := q_sB_e hv
    obtain ⟨_, cg13, dg13, ng13, yg13⟩ := hv
    refine ⟨_, cg13, dg13, ng13.1, ng13.2, _, yg13, by decide, ?_⟩
    replace h := q_be h
    obtain ⟨s33, hl, h⟩ := h
    refine ps_weak (q_lp_ok hl (fun s => ps_At mX2_stored (d + 1) 40 [(0, .ref x0), (1, .int v4), (2, .int s.1)] [] s.2 Q) (fun r => ps_At mX2_stored (d + 1) 77 [] [] r Q) (fun s x hb hh he => pbX2_stored_40 hb hh he) ?_) ⟨rfl, rfl, rfl, trivial⟩
    refine (?_ : ps_At mX2_stored (d + 1) 77 [] [] s33 Q)
    exact ps_weak (pjX2_stored_77 h hk) trivial
  refine And.intro (fun hc10 => ?_) (fun hc10 => ?_)
  · refine sX2_stored_33 ?_
    exact ps_weak (kJ12 _ (if_pos (hc10)).symm) ⟨rfl, rfl, trivial⟩
  · exact ps_weak (kJ12 _ (if_neg (hc10)).symm) ⟨rfl, rfl, trivial⟩
noncomputable def bX2_order_8 (x0 : Nat) (x1 : Nat) (x2 : Nat) (x3 : Int32) (x4 : Int32) (x5 : Int32) (g : ps_G) : Option ((Int32 × ps_G) ⊕ (ps_G)) := if (x3 + x4) ≤ x5 then (some (.inr g)) else (Option.bind (q_fR 2 7 g x0) fun v4 => Option.bind (v4) fun a5 => Option.bind (q_len g a5) fun v6 => if v6 ≤ x5 then (some (.inr g)) else (Option.bind (q_fR 2 7 g x0) fun v9 => Option.bind (v9) fun a10 => Option.bind (q_aI g a10 x5) fun v11 => Option.bind (q_aI g x1 (v11 &&& (15 : Int32))) fun v12 => Option.bind (q_wI g x1 (v11 &&& (15 : Int32)) (v12 + (1 : Int32))) fun g13 => some (.inl (x5 + (1 : Int32), g13))))
theorem pbX2_order_8 {d : Nat} {Q : ps_Rs → ps_G → Prop}  {x0 : Nat} {x1 : Nat} {x2 : Nat} {x3 : Int32} {x4 : Int32} {x5 : Int32} {g : ps_G} {x : (Int32 × ps_G) ⊕ (ps_G)} (h : bX2_order_8 x0 x1 x2 x3 x4 x5 g = some x) (hh : ∀ s' : Int32 × ps_G, x = .inl s' → ps_At mX2_order (d + 1) 8 [(0, .ref x0), (1, .ref x1), (2, .ref x2), (3, .int x3), (4, .int x4), (5, .int s'.1)] [] s'.2 Q) (he : ∀ r' : ps_G, x = .inr r' → ps_At mX2_order (d + 1) 49 [(0, .ref x0), (1, .ref x1), (2, .ref x2), (3, .int x3), (4, .int x4)] [] r' Q) : ps_At mX2_order (d + 1) 8 [(0, .ref x0), (1, .ref x1), (2, .ref x2), (3, .int x3), (4, .int x4), (5, .int x5)] [] g Q := by
  unfold bX2_order_8 at h
  refine sX2_order_8 ?_
  refine And.intro (fun hc2 => ?_) (fun hc2 => ?_)
  · replace h := q_ifp (hc2) h
    exact ps_weak (he g (Option.some.inj h).symm) ⟨rfl, rfl, rfl, rfl, rfl, trivial⟩
  · replace h := q_ifn (hc2) h
    replace h := q_be h
    obtain ⟨v4, hv, h⟩ := h
    replace hv := q_fR_e hv
    obtain ⟨_, cv4, dv4⟩ := hv
    replace h := q_be h
    obtain ⟨a5, ea5, h⟩ := h
    subst ea5
    replace h := q_be h
    obtain ⟨v6, hv, h⟩ := h
    replace hv := q_len_e hv
    obtain ⟨_, _, cv6, qv6, yv6⟩ := hv
    refine ⟨⟨some _, rfl⟩, _, _, cv4, dv4, _, _, cv6, qv6, _, yv6, ?_⟩
    refine And.intro (fun hc7 => ?_) (fun hc7 => ?_)
    · replace h := q_ifp (hc7) h
      exact ps_weak (he g (Option.some.inj h).symm) ⟨rfl, rfl, rfl, rfl, rfl, trivial⟩
    · replace h := q_ifn (hc7) h
      replace h := q_be h
      obtain ⟨v9, hv, h⟩ := h
      replace hv := q_fR_e hv
      obtain ⟨_, cv9, dv9⟩ := hv
      replace h := q_be h
      obtain ⟨a10, ea10, h⟩ := h
      subst ea10
      replace h := q_be h
      obtain ⟨v11, hv, h⟩ := h
      replace hv := q_aI_e hv
      obtain ⟨_, _, cv11, iv11, yv11⟩ := hv
      replace h := q_be h
      obtain ⟨v12, hv, h⟩ := h
      replace hv := q_aI_e hv
      obtain ⟨_, _, cv12, iv12, yv12⟩ := hv
      replace h := q_be h
      obtain ⟨g13, hv, h⟩ := h
      replace hv := q_wI_e hv
      obtain ⟨_, _, cg13, pg13, ig13, yg13⟩ := hv
      refine ⟨⟨some _, rfl⟩, ⟨some _, rfl⟩, _, _, cv9, dv9, _, _, cv11, iv11, _, yv11, rfl, rfl, _, _, cv12, iv12, _, yv12, _, _, cg13, pg13, ig13, _, yg13, by decide, ?_⟩
      exact ps_weak (hh (x5 + (1 : Int32), g13) (Option.some.inj h).symm) ⟨rfl, rfl, rfl, rfl, rfl, rfl, trivial⟩
noncomputable def jX2_order_88_62 (g : ps_G) (x0 : Nat) (x1 : Nat) (x2 : Nat) (x3 : Int32) (x4 : Int32) (x6 : Int32) (k0 : Int32) : Option ((Int32 × Int32 × ps_G) ⊕ (Int32 × ps_G)) := Option.bind (q_fR 2 12 g x0) fun v28 => Option.bind (v28) fun a29 => Option.bind (q_fR 2 12 g x0) fun v30 => Option.bind (v30) fun a31 => Option.bind (q_aI g a31 x6) fun v32 => Option.bind (q_aI g x1 x6) fun v33 => Option.bind (q_wI g a29 (x6 + (1 : Int32)) (v32 + v33)) fun g34 => some (.inl (k0, x6 + (1 : Int32), g34))
theorem pjX2_order_88_62 {d : Nat} {Q : ps_Rs → ps_G → Prop} {g : ps_G} {x0 : Nat} {x1 : Nat} {x2 : Nat} {x3 : Int32} {x4 : Int32} {x6 : Int32} {k0 : Int32} {x : (Int32 × Int32 × ps_G) ⊕ (Int32 × ps_G)} (h : jX2_order_88_62 g x0 x1 x2 x3 x4 x6 k0 = some x) (hh : ∀ s' : Int32 × Int32 × ps_G, x = .inl s' → ps_At mX2_order (d + 1) 62 [(0, .ref x0), (1, .ref x1), (2, .ref x2), (3, .int x3), (4, .int x4), (5, .int s'.1), (6, .int s'.2.1)] [] s'.2.2 Q) (he : ∀ r' : Int32 × ps_G, x = .inr r' → ps_At mX2_order (d + 1) 117 [(0, .ref x0), (2, .ref x2), (3, .int x3), (4, .int x4), (5, .int r'.1)] [] r'.2 Q) : ps_At mX2_order (d + 1) 88 [(0, .ref x0), (1, .ref x1), (2, .ref x2), (3, .int x3), (4, .int x4), (6, .int x6)] [.int k0] g Q := by
  unfold jX2_order_88_62 at h
  refine sX2_order_88 ?_
  replace h := q_be h
  obtain ⟨v28, hv, h⟩ := h
  replace hv := q_fR_e hv
  obtain ⟨_, cv28, dv28⟩ := hv
  replace h := q_be h
  obtain ⟨a29, ea29, h⟩ := h
  subst ea29
  replace h := q_be h
  obtain ⟨v30, hv, h⟩ := h
  replace hv := q_fR_e hv
  obtain ⟨_, cv30, dv30⟩ := hv
  replace h := q_be h
  obtain ⟨a31, ea31, h⟩ := h
  subst ea31
  replace h := q_be h
  obtain ⟨v32, hv, h⟩ := h
  replace hv := q_aI_e hv
  obtain ⟨_, _, cv32, iv32, yv32⟩ := hv
  replace h := q_be h
  obtain ⟨v33, hv, h⟩ := h
  replace hv := q_aI_e hv
  obtain ⟨_, _, cv33, iv33, yv33⟩ := hv
  replace h := q_be h
  obtain ⟨g34, hv, h⟩ := h
  replace hv := q_wI_e hv
  obtain ⟨_, _, cg34, pg34, ig34, yg34⟩ := hv
  refine ⟨by decide, ⟨some _, rfl⟩, _, _, cv28, dv28, ⟨some _, rfl⟩, _, _, cv30, dv30, _, _, cv32, iv32, _, yv32, ⟨some _, rfl⟩, _, _, cv33, iv33, _, yv33, _, _, cg34, pg34, ig34, _, yg34, by decide, ?_⟩
  exact ps_weak (hh (k0, x6 + (1 : Int32), g34) (Option.some.inj h).symm) ⟨rfl, rfl, rfl, rfl, rfl, rfl, rfl, trivial⟩
noncomputable def bX2_order_62 (x0 : Nat) (x1 : Nat) (x2 : Nat) (x3 : Int32) (x4 : Int32) (x5 : Int32) (x6 : Int32) (g : ps_G) : Option ((Int32 × Int32 × ps_G) ⊕ (Int32 × ps_G)) := if (15 : Int32) < x6 then (some (.inr (x5, g))) else (if 0 ≤ x5 then (Option.bind (q_aI g x1 x6) fun v27 => jX2_order_88_62 g x0 x1 x2 x3 x4 x6 (((2 : Int32) * x5) - v27)) else (jX2_order_88_62 g x0 x1 x2 x3 x4 x6 x5))
theorem pbX2_order_62 {d : Nat} {Q : ps_Rs → ps_G → Prop}  {x0 : Nat} {x1 : Nat} {x2 : Nat} {x3 : Int32} {x4 : Int32} {x5 : Int32} {x6 : Int32} {g : ps_G} {x : (Int32 × Int32 × ps_G) ⊕ (Int32 × ps_G)} (h : bX2_order_62 x0 x1 x2 x3 x4 x5 x6 g = some x) (hh : ∀ s' : Int32 × Int32 × ps_G, x = .inl s' → ps_At mX2_order (d + 1) 62 [(0, .ref x0), (1, .ref x1), (2, .ref x2), (3, .int x3), (4, .int x4), (5, .int s'.1), (6, .int s'.2.1)] [] s'.2.2 Q) (he : ∀ r' : Int32 × ps_G, x = .inr r' → ps_At mX2_order (d + 1) 117 [(0, .ref x0), (2, .ref x2), (3, .int x3), (4, .int x4), (5, .int r'.1)] [] r'.2 Q) : ps_At mX2_order (d + 1) 62 [(0, .ref x0), (1, .ref x1), (2, .ref x2), (3, .int x3), (4, .int x4), (5, .int x5), (6, .int x6)] [] g Q := by
  unfold bX2_order_62 at h
  refine sX2_order_62 ?_
  refine And.intro (fun hc22 => ?_) (fun hc22 => ?_)
  · replace h := q_ifp (hc22) h
    exact ps_weak (he (x5, g) (Option.some.inj h).symm) ⟨rfl, rfl, rfl, rfl, rfl, trivial⟩
  · replace h := q_ifn (hc22) h
    refine And.intro (fun hc25 => ?_) (fun hc25 => ?_)
    · replace h := q_ifp (hc25) h
      refine sX2_order_79 ?_
      replace h := q_be h
      obtain ⟨v27, hv, h⟩ := h
      replace hv := q_aI_e hv
      obtain ⟨_, _, cv27, iv27, yv27⟩ := hv
      refine ⟨⟨some _, rfl⟩, _, _, cv27, iv27, _, yv27, ?_⟩
      exact ps_weak (pjX2_order_88_62 h hh he) ⟨rfl, rfl, rfl, rfl, rfl, rfl, trivial⟩
    · replace h := q_ifn (hc25) h
      exact ps_weak (pjX2_order_88_62 h hh he) ⟨rfl, rfl, rfl, rfl, rfl, rfl, trivial⟩
noncomputable def jX2_order_192_120 (g : ps_G) (x0 : Nat) (x2 : Nat) (x3 : Int32) (x4 : Int32) (x5 : Int32) (x6 : Int32) : Option ((Int32 × ps_G) ⊕ (ps_G)) := some (.inl (x6 + (1 : Int32), g))
theorem pjX2_order_192_120 {d : Nat} {Q : ps_Rs → ps_G → Prop} {g : ps_G} {x0 : Nat} {x2 : Nat} {x3 : Int32} {x4 : Int32} {x5 : Int32} {x6 : Int32} {x : (Int32 × ps_G) ⊕ (ps_G)} (h : jX2_order_192_120 g x0 x2 x3 x4 x5 x6 = some x) (hh : ∀ s' : Int32 × ps_G, x = .inl s' → ps_At mX2_order (d + 1) 120 [(0, .ref x0), (2, .ref x2), (3, .int x3), (4, .int x4), (5, .int x5), (6, .int s'.1)] [] s'.2 Q) (he : ∀ r' : ps_G, x = .inr r' → ps_At mX2_order (d + 1) 198 [(5, .int x5)] [] r' Q) : ps_At mX2_order (d + 1) 192 [(0, .ref x0), (2, .ref x2), (3, .int x3), (4, .int x4), (5, .int x5), (6, .int x6)] [] g Q := by
  unfold jX2_order_192_120 at h
  refine sX2_order_192 ?_
  refine ⟨by decide, ?_⟩
  exact ps_weak (hh (x6 + (1 : Int32), g) (Option.some.inj h).symm) ⟨rfl, rfl, rfl, rfl, rfl, rfl, trivial⟩
noncomputable def bX2_order_120 (x0 : Nat) (x2 : Nat) (x3 : Int32) (x4 : Int32) (x5 : Int32) (x6 : Int32) (g : ps_G) : Option ((Int32 × ps_G) ⊕ (ps_G)) := if x4 ≤ x6 then (some (.inr g)) else (Option.bind (q_fR 2 7 g x0) fun v42 => Option.bind (v42) fun a43 => Option.bind (q_len g a43) fun v44 => if v44 ≤ (x3 + x6) then (some (.inr g)) else (Option.bind (q_fR 2 7 g x0) fun v47 => Option.bind (v47) fun a48 => Option.bind (q_aI g a48 (x3 + x6)) fun v49 => if (v49 &&& (15 : Int32)) = 0 then (jX2_order_192_120 g x0 x2 x3 x4 x5 x6) else (Option.bind (q_fR 2 12 g x0) fun v52 => Option.bind (v52) fun a53 => Option.bind (q_aI g a53 (v49 &&& (15 : Int32))) fun v54 => Option.bind (q_len g x2) fun v55 => if v55 ≤ v54 then (jX2_order_192_120 g x0 x2 x3 x4 x5 x6) else (Option.bind (q_fR 2 12 g x0) fun v58 => Option.bind (v58) fun a59 => Option.bind (q_aI g a59 (v49 &&& (15 : Int32))) fun v60 => Option.bind (q_wI g x2 v60 x6) fun g61 => Option.bind (q_fR 2 12 g61 x0) fun v62 => Option.bind (v62) fun a63 => Option.bind (q_aI g61 a63 (v49 &&& (15 : Int32))) fun v64 => Option.bind (q_wI g61 a63 (v49 &&& (15 : Int32)) (v64 + (1 : Int32))) fun g65 => jX2_order_192_120 g65 x0 x2 x3 x4 x5 x6))))
theorem pbX2_order_120 {d : Nat} {Q : ps_Rs → ps_G → Prop}  {x0 : Nat} {x2 : Nat} {x3 : Int32} {x4 : Int32} {x5 : Int32} {x6 : Int32} {g : ps_G} {x : (Int32 × ps_G) ⊕ (ps_G)} (h : bX2_order_120 x0 x2 x3 x4 x5 x6 g = some x) (hh : ∀ s' : Int32 × ps_G, x = .inl s' → ps_At mX2_order (d + 1) 120 [(0, .ref x0), (2, .ref x2), (3, .int x3), (4, .int x4), (5, .int x5), (6, .int s'.1)] [] s'.2 Q) (he : ∀ r' : ps_G, x = .inr r' → ps_At mX2_order (d + 1) 198 [(5, .int x5)] [] r' Q) : ps_At mX2_order (d + 1) 120 [(0, .ref x0), (2, .ref x2), (3, .int x3), (4, .int x4), (5, .int x5), (6, .int x6)] [] g Q := by
  unfold bX2_order_120 at h
  refine sX2_order_120 ?_
  refine And.intro (fun hc40 => ?_) (fun hc40 => ?_)
  · replace h := q_ifp (hc40) h
    exact ps_weak (he g (Option.some.inj h).symm) ⟨rfl, trivial⟩
  · replace h := q_ifn (hc40) h
    replace h := q_be h
    obtain ⟨v42, hv, h⟩ := h
    replace hv := q_fR_e hv
    obtain ⟨_, cv42, dv42⟩ := hv
    replace h := q_be h
    obtain ⟨a43, ea43, h⟩ := h
    subst ea43
    replace h := q_be h
    obtain ⟨v44, hv, h⟩ := h
    replace hv := q_len_e hv
    obtain ⟨_, _, cv44, qv44, yv44⟩ := hv
    refine ⟨⟨some _, rfl⟩, _, _, cv42, dv42, _, _, cv44, qv44, _, yv44, ?_⟩
    refine And.intro (fun hc45 => ?_) (fun hc45 => ?_)
    · replace h := q_ifp (hc45) h
      exact ps_weak (he g (Option.some.inj h).symm) ⟨rfl, trivial⟩
    · replace h := q_ifn (hc45) h
      replace h := q_be h
      obtain ⟨v47, hv, h⟩ := h
      replace hv := q_fR_e hv
      obtain ⟨_, cv47, dv47⟩ := hv
      replace h := q_be h
      obtain ⟨a48, ea48, h⟩ := h
      subst ea48
      replace h := q_be h
      obtain ⟨v49, hv, h⟩ := h
      replace hv := q_aI_e hv
      obtain ⟨_, _, cv49, iv49, yv49⟩ := hv
      refine ⟨⟨some _, rfl⟩, _, _, cv47, dv47, _, _, cv49, iv49, _, yv49, by decide, ?_⟩
      refine And.intro (fun hc50 => ?_) (fun hc50 => ?_)
      · replace h := q_ifp (hc50) h
        exact ps_weak (pjX2_order_192_120 h hh he) ⟨rfl, rfl, rfl, rfl, rfl, rfl, trivial⟩
      · replace h := q_ifn (hc50) h
        replace h := q_be h
        obtain ⟨v52, hv, h⟩ := h
        replace hv := q_fR_e hv
        obtain ⟨_, cv52, dv52⟩ := hv
        replace h := q_be h
        obtain ⟨a53, ea53, h⟩ := h
        subst ea53
        replace h := q_be h
        obtain ⟨v54, hv, h⟩ := h
        replace hv := q_aI_e hv
        obtain ⟨_, _, cv54, iv54, yv54⟩ := hv
        replace h := q_be h
        obtain ⟨v55, hv, h⟩ := h
        replace hv := q_len_e hv
        obtain ⟨_, _, cv55, qv55, yv55⟩ := hv
        refine ⟨⟨some _, rfl⟩, _, _, cv52, dv52, _, _, cv54, iv54, _, yv54, ⟨some _, rfl⟩, _, _, cv55, qv55, _, yv55, ?_⟩
        refine And.intro (fun hc56 => ?_) (fun hc56 => ?_)
        · replace h := q_ifp (hc56) h
          exact ps_weak (pjX2_order_192_120 h hh he) ⟨rfl, rfl, rfl, rfl, rfl, rfl, trivial⟩
        · replace h := q_ifn (hc56) h
          replace h := q_be h
          obtain ⟨v58, hv, h⟩ := h
          replace hv := q_fR_e hv
          obtain ⟨_, cv58, dv58⟩ := hv
          replace h := q_be h
          obtain ⟨a59, ea59, h⟩ := h
          subst ea59
          replace h := q_be h
          obtain ⟨v60, hv, h⟩ := h
          replace hv := q_aI_e hv
          obtain ⟨_, _, cv60, iv60, yv60⟩ := hv
          replace h := q_be h
          obtain ⟨g61, hv, h⟩ := h
          replace hv := q_wI_e hv
          obtain ⟨_, _, cg61, pg61, ig61, yg61⟩ := hv
          replace h := q_be h
          obtain ⟨v62, hv, h⟩ := h
          replace hv := q_fR_e hv
          obtain ⟨_, cv62, dv62⟩ := hv
          replace h := q_be h
          obtain ⟨a63, ea63, h⟩ := h
          subst ea63
          replace h := q_be h
          obtain ⟨v64, hv, h⟩ := h
          replace hv := q_aI_e hv
          obtain ⟨_, _, cv64, iv64, yv64⟩ := hv
          replace h := q_be h
          obtain ⟨g65, hv, h⟩ := h
          replace hv := q_wI_e hv
          obtain ⟨_, _, cg65, pg65, ig65, yg65⟩ := hv
          refine ⟨⟨some _, rfl⟩, ⟨some _, rfl⟩, _, _, cv58, dv58, _, _, cv60, iv60, _, yv60, _, _, cg61, pg61, ig61, _, yg61, ⟨some _, rfl⟩, _, _, cv62, dv62, rfl, rfl, _, _, cv64, iv64, _, yv64, _, _, cg65, pg65, ig65, _, yg65, ?_⟩
          exact ps_weak (pjX2_order_192_120 h hh he) ⟨rfl, rfl, rfl, rfl, rfl, rfl, trivial⟩
noncomputable def jX2_order_198 (g : ps_G) (x5 : Int32) : Option (Int32 × ps_G) := some (x5, g)
theorem pjX2_order_198 {d : Nat} {Q : ps_Rs → ps_G → Prop} {g : ps_G} {x5 : Int32} {r : Int32 × ps_G} (h : jX2_order_198 g x5 = some r) (hk : Q (.inl (some (.int r.1))) r.2) : ps_At mX2_order (d + 1) 198 [(5, .int x5)] [] g Q := by
  unfold jX2_order_198 at h
  refine sX2_order_198 ?_
  cases h
  exact ⟨rfl, hk⟩
noncomputable def jX2_order_49 (g : ps_G) (x0 : Nat) (x1 : Nat) (x2 : Nat) (x3 : Int32) (x4 : Int32) : Option (Int32 × ps_G) := Option.bind (q_fR 2 12 g x0) fun v19 => Option.bind (v19) fun a20 => Option.bind (q_wI g a20 (1 : Int32) (0 : Int32)) fun g21 => Option.bind (q_lp (fun s => bX2_order_62 x0 x1 x2 x3 x4 s.1 s.2.1 s.2.2) ((1 : Int32), (1 : Int32), g21)) fun s39 => Option.bind (q_lp (fun s => bX2_order_120 x0 x2 x3 x4 s39.1 s.1 s.2) ((0 : Int32), s39.2)) fun s74 => jX2_order_198 s74 s39.1
theorem pjX2_order_49 {d : Nat} {Q : ps_Rs → ps_G → Prop} {g : ps_G} {x0 : Nat} {x1 : Nat} {x2 : Nat} {x3 : Int32} {x4 : Int32} {r : Int32 × ps_G} (h : jX2_order_49 g x0 x1 x2 x3 x4 = some r) (hk : Q (.inl (some (.int r.1))) r.2) : ps_At mX2_order (d + 1) 49 [(0, .ref x0), (1, .ref x1), (2, .ref x2), (3, .int x3), (4, .int x4)] [] g Q := by
  unfold jX2_order_49 at h
  refine sX2_order_49 ?_
  replace h := q_be h
  obtain ⟨v19, hv, h⟩ := h
  replace hv := q_fR_e hv
  obtain ⟨_, cv19, dv19⟩ := hv
  replace h := q_be h
  obtain ⟨a20, ea20, h⟩ := h
  subst ea20
  replace h := q_be h
  obtain ⟨g21, hv, h⟩ := h
  replace hv := q_wI_e hv
  obtain ⟨_, _, cg21, pg21, ig21, yg21⟩ := hv
  refine ⟨by decide, ⟨some _, rfl⟩, _, _, cv19, dv19, _, _, cg21, pg21, ig21, _, yg21, by decide, ?_⟩
  replace h := q_be h
  obtain ⟨s39, hl, h⟩ := h
  refine ps_weak (q_lp_ok hl (fun s => ps_At mX2_order (d + 1) 62 [(0, .ref x0), (1, .ref x1), (2, .ref x2), (3, .int x3), (4, .int x4), (5, .int s.1), (6, .int s.2.1)] [] s.2.2 Q) (fun r => ps_At mX2_order (d + 1) 117 [(0, .ref x0), (2, .ref x2), (3, .int x3), (4, .int x4), (5, .int r.1)] [] r.2 Q) (fun s x hb hh he => pbX2_order_62 hb hh he) ?_) ⟨rfl, rfl, rfl, rfl, rfl, rfl, rfl, trivial⟩
  refine (?_ : ps_At mX2_order (d + 1) 117 [(0, .ref x0), (2, .ref x2), (3, .int x3), (4, .int x4), (5, .int s39.1)] [] s39.2 Q)
  refine sX2_order_117 ?_
  refine ⟨by decide, ?_⟩
  replace h := q_be h
  obtain ⟨s74, hl, h⟩ := h
  refine ps_weak (q_lp_ok hl (fun s => ps_At mX2_order (d + 1) 120 [(0, .ref x0), (2, .ref x2), (3, .int x3), (4, .int x4), (5, .int s39.1), (6, .int s.1)] [] s.2 Q) (fun r => ps_At mX2_order (d + 1) 198 [(5, .int s39.1)] [] r Q) (fun s x hb hh he => pbX2_order_120 hb hh he) ?_) ⟨rfl, rfl, rfl, rfl, rfl, rfl, trivial⟩
  refine (?_ : ps_At mX2_order (d + 1) 198 [(5, .int s39.1)] [] s74 Q)
  exact ps_weak (pjX2_order_198 h hk) ⟨rfl, trivial⟩
noncomputable def fX2_order (g : ps_G) (x0 : Nat) (x1 : Nat) (x2 : Nat) (x3 : Int32) (x4 : Int32) : Option (Int32 × ps_G) := Option.bind (fJ7_fill_53178 g x1 (0 : Int32)) fun v1 => Option.bind (q_lp (fun s => bX2_order_8 x0 x1 x2 x3 x4 s.1 s.2) (x3, v1)) fun s18 => jX2_order_49 s18 x0 x1 x2 x3 x4
theorem rX2_order {d : Nat} {Q : ps_Rs → ps_G → Prop} {g : ps_G} {x0 : Nat} {x1 : Nat} {x2 : Nat} {x3 : Int32} {x4 : Int32} {r : Int32 × ps_G} (h : fX2_order g x0 x1 x2 x3 x4 = some r) (hk : Q (.inl (some (.int r.1))) r.2) : ps_Ok mX2_order (d + 1) [.ref x0, .ref x1, .ref x2, .int x3, .int x4] g Q := by
  unfold fX2_order at h
  refine sX2_order_0 ?_
  replace h := q_be h
  obtain ⟨v1, hv, h⟩ := h
  refine ⟨⟨some _, rfl⟩, ?_⟩
  refine rJ7_fill_53178 hv ?_
  refine ⟨by decide, ?_⟩
  replace h := q_be h
  obtain ⟨s18, hl, h⟩ := h
  refine ps_weak (q_lp_ok hl (fun s => ps_At mX2_order (d + 1) 8 [(0, .ref x0), (1, .ref x1), (2, .ref x2), (3, .int x3), (4, .int x4), (5, .int s.1)] [] s.2 Q) (fun r => ps_At mX2_order (d + 1) 49 [(0, .ref x0), (1, .ref x1), (2, .ref x2), (3, .int x3), (4, .int x4)] [] r Q) (fun s x hb hh he => pbX2_order_8 hb hh he) ?_) ⟨rfl, rfl, rfl, rfl, rfl, rfl, trivial⟩
  refine (?_ : ps_At mX2_order (d + 1) 49 [(0, .ref x0), (1, .ref x1), (2, .ref x2), (3, .int x3), (4, .int x4)] [] s18 Q)
  exact ps_weak (pjX2_order_49 h hk) ⟨rfl, rfl, rfl, rfl, rfl, trivial⟩
noncomputable def bX2_fixedCodes_2 (x0 : Nat) (x1 : Int32) (g : ps_G) : Option ((Int32 × ps_G) ⊕ (ps_G)) := if (288 : Int32) ≤ x1 then (some (.inr g)) else (Option.bind (q_fR 2 7 g x0) fun v3 => Option.bind (v3) fun a4 => Option.bind (q_wI g a4 x1 (if (144 : Int32) ≤ x1 then (if (256 : Int32) ≤ x1 then (if (280 : Int32) ≤ x1 then (8 : Int32) else (7 : Int32)) else (9 : Int32)) else (8 : Int32))) fun g8 => some (.inl (x1 + (1 : Int32), g8)))
theorem pbX2_fixedCodes_2 {d : Nat} {Q : ps_Rs → ps_G → Prop}  {x0 : Nat} {x1 : Int32} {g : ps_G} {x : (Int32 × ps_G) ⊕ (ps_G)} (h : bX2_fixedCodes_2 x0 x1 g = some x) (hh : ∀ s' : Int32 × ps_G, x = .inl s' → ps_At mX2_fixedCodes (d + 2) 2 [(0, .ref x0), (1, .int s'.1)] [] s'.2 Q) (he : ∀ r' : ps_G, x = .inr r' → ps_At mX2_fixedCodes (d + 2) 59 [(0, .ref x0)] [] r' Q) : ps_At mX2_fixedCodes (d + 2) 2 [(0, .ref x0), (1, .int x1)] [] g Q := by
  unfold bX2_fixedCodes_2 at h
  refine sX2_fixedCodes_2 ?_
  refine And.intro (fun hc1 => ?_) (fun hc1 => ?_)
  · replace h := q_ifp (hc1) h
    exact ps_weak (he g (Option.some.inj h).symm) ⟨rfl, trivial⟩
  · replace h := q_ifn (hc1) h
    replace h := q_be h
    obtain ⟨v3, hv, h⟩ := h
    replace hv := q_fR_e hv
    obtain ⟨_, cv3, dv3⟩ := hv
    replace h := q_be h
    obtain ⟨a4, ea4, h⟩ := h
    subst ea4
    have kJ7 : ∀ w6 : Int32, w6 = (if (144 : Int32) ≤ x1 then (if (256 : Int32) ≤ x1 then (if (280 : Int32) ≤ x1 then (8 : Int32) else (7 : Int32)) else (9 : Int32)) else (8 : Int32)) → ps_At mX2_fixedCodes (d + 2) 52 [(0, .ref x0), (1, .int x1)] [.int w6, .int x1, .ref a4] g Q := by
      rintro _ rfl
      refine sX2_fixedCodes_52 ?_
      replace h := q_be h
      obtain ⟨g8, hv, h⟩ := h
      replace hv := q_wI_e hv
      obtain ⟨_, _, cg8, pg8, ig8, yg8⟩ := hv
      refine ⟨_, _, cg8, pg8, ig8, _, yg8, by decide, ?_⟩
      exact ps_weak (hh (x1 + (1 : Int32), g8) (Option.some.inj h).symm) ⟨rfl, rfl, trivial⟩
    refine ⟨⟨some _, rfl⟩, _, _, cv3, dv3, ?_⟩
    refine And.intro (fun hc5 => ?_) (fun hc5 => ?_)
    · refine sX2_fixedCodes_26 ?_
      have kJ11 : ∀ w10 : Int32, w10 = (if (256 : Int32) ≤ x1 then (if (280 : Int32) ≤ x1 then (8 : Int32) else (7 : Int32)) else (9 : Int32)) → ps_At mX2_fixedCodes (d + 2) 52 [(0, .ref x0), (1, .int x1)] [.int w10, .int x1, .ref a4] g Q := by
        rintro _ rfl
        exact ps_weak (kJ7 _ (if_pos (hc5)).symm) ⟨rfl, rfl, trivial⟩
      refine And.intro (fun hc9 => ?_) (fun hc9 => ?_)
      · refine sX2_fixedCodes_38 ?_
        have kJ14 : ∀ w13 : Int32, w13 = (if (280 : Int32) ≤ x1 then (8 : Int32) else (7 : Int32)) → ps_At mX2_fixedCodes (d + 2) 52 [(0, .ref x0), (1, .int x1)] [.int w13, .int x1, .ref a4] g Q := by
          rintro _ rfl
          exact ps_weak (kJ11 _ (if_pos (hc9)).symm) ⟨rfl, rfl, trivial⟩
        refine And.intro (fun hc12 => ?_) (fun hc12 => ?_)
        · refine sX2_fixedCodes_50 ?_
          exact ps_weak (kJ14 _ (if_pos (hc12)).symm) ⟨rfl, rfl, trivial⟩
        · exact ps_weak (kJ14 _ (if_neg (hc12)).symm) ⟨rfl, rfl, trivial⟩
      · exact ps_weak (kJ11 _ (if_neg (hc9)).symm) ⟨rfl, rfl, trivial⟩
    · exact ps_weak (kJ7 _ (if_neg (hc5)).symm) ⟨rfl, rfl, trivial⟩
noncomputable def bX2_fixedCodes_63 (x0 : Nat) (x1 : Int32) (g : ps_G) : Option ((Int32 × ps_G) ⊕ (ps_G)) := if (318 : Int32) ≤ x1 then (some (.inr g)) else (Option.bind (q_fR 2 7 g x0) fun v20 => Option.bind (v20) fun a21 => Option.bind (q_wI g a21 x1 (5 : Int32)) fun g22 => some (.inl (x1 + (1 : Int32), g22)))
theorem pbX2_fixedCodes_63 {d : Nat} {Q : ps_Rs → ps_G → Prop}  {x0 : Nat} {x1 : Int32} {g : ps_G} {x : (Int32 × ps_G) ⊕ (ps_G)} (h : bX2_fixedCodes_63 x0 x1 g = some x) (hh : ∀ s' : Int32 × ps_G, x = .inl s' → ps_At mX2_fixedCodes (d + 2) 63 [(0, .ref x0), (1, .int s'.1)] [] s'.2 Q) (he : ∀ r' : ps_G, x = .inr r' → ps_At mX2_fixedCodes (d + 2) 83 [(0, .ref x0)] [] r' Q) : ps_At mX2_fixedCodes (d + 2) 63 [(0, .ref x0), (1, .int x1)] [] g Q := by
  unfold bX2_fixedCodes_63 at h
  refine sX2_fixedCodes_63 ?_
  refine And.intro (fun hc18 => ?_) (fun hc18 => ?_)
  · replace h := q_ifp (hc18) h
    exact ps_weak (he g (Option.some.inj h).symm) ⟨rfl, trivial⟩
  · replace h := q_ifn (hc18) h
    replace h := q_be h
    obtain ⟨v20, hv, h⟩ := h
    replace hv := q_fR_e hv
    obtain ⟨_, cv20, dv20⟩ := hv
    replace h := q_be h
    obtain ⟨a21, ea21, h⟩ := h
    subst ea21
    replace h := q_be h
    obtain ⟨g22, hv, h⟩ := h
    replace hv := q_wI_e hv
    obtain ⟨_, _, cg22, pg22, ig22, yg22⟩ := hv
    refine ⟨⟨some _, rfl⟩, _, _, cv20, dv20, _, _, cg22, pg22, ig22, _, yg22, by decide, ?_⟩
    exact ps_weak (hh (x1 + (1 : Int32), g22) (Option.some.inj h).symm) ⟨rfl, rfl, trivial⟩
noncomputable def fX2_fixedCodes (g : ps_G) (x0 : Nat) : Option (ps_G) := Option.bind (q_lp (fun s => bX2_fixedCodes_2 x0 s.1 s.2) ((0 : Int32), g)) fun s17 => Option.bind (q_lp (fun s => bX2_fixedCodes_63 x0 s.1 s.2) ((288 : Int32), s17)) fun s25 => Option.bind (q_fR 2 8 s25 x0) fun v26 => Option.bind (v26) fun a27 => Option.bind (q_fR 2 9 s25 x0) fun v28 => Option.bind (v28) fun a29 => Option.bind (q_ob 2 s25 x0) fun u30 => q_b2 (fX2_order s25 x0 a27 a29 (0 : Int32) (288 : Int32)) fun v31 g32 => Option.bind (q_fR 2 10 g32 x0) fun v33 => Option.bind (v33) fun a34 => Option.bind (q_fR 2 11 g32 x0) fun v35 => Option.bind (v35) fun a36 => Option.bind (q_ob 2 g32 x0) fun u37 => q_b2 (fX2_order g32 x0 a34 a36 (288 : Int32) (30 : Int32)) fun v38 g39 => some g39
theorem rX2_fixedCodes {d : Nat} {Q : ps_Rs → ps_G → Prop} {g : ps_G} {x0 : Nat} {r : ps_G} (h : fX2_fixedCodes g x0 = some r) (hk : Q (.inl none) r) : ps_Ok mX2_fixedCodes (d + 2) [.ref x0] g Q := by
  unfold fX2_fixedCodes at h
  refine sX2_fixedCodes_0 ?_
  refine ⟨by decide, ?_⟩
  replace h := q_be h
  obtain ⟨s17, hl, h⟩ := h
  refine ps_weak (q_lp_ok hl (fun s => ps_At mX2_fixedCodes (d + 2) 2 [(0, .ref x0), (1, .int s.1)] [] s.2 Q) (fun r => ps_At mX2_fixedCodes (d + 2) 59 [(0, .ref x0)] [] r Q) (fun s x hb hh he => pbX2_fixedCodes_2 hb hh he) ?_) ⟨rfl, rfl, trivial⟩
  refine (?_ : ps_At mX2_fixedCodes (d + 2) 59 [(0, .ref x0)] [] s17 Q)
  refine sX2_fixedCodes_59 ?_
  refine ⟨by decide, ?_⟩
  replace h := q_be h
  obtain ⟨s25, hl, h⟩ := h
  refine ps_weak (q_lp_ok hl (fun s => ps_At mX2_fixedCodes (d + 2) 63 [(0, .ref x0), (1, .int s.1)] [] s.2 Q) (fun r => ps_At mX2_fixedCodes (d + 2) 83 [(0, .ref x0)] [] r Q) (fun s x hb hh he => pbX2_fixedCodes_63 hb hh he) ?_) ⟨rfl, rfl, trivial⟩
  refine (?_ : ps_At mX2_fixedCodes (d + 2) 83 [(0, .ref x0)] [] s25 Q)
  refine sX2_fixedCodes_83 ?_
  replace h := q_be h
  obtain ⟨v26, hv, h⟩ := h
  replace hv := q_fR_e hv
  obtain ⟨_, cv26, dv26⟩ := hv
  replace h := q_be h
  obtain ⟨a27, ea27, h⟩ := h
  subst ea27
  replace h := q_be h
  obtain ⟨v28, hv, h⟩ := h
  replace hv := q_fR_e hv
  obtain ⟨_, cv28, dv28⟩ := hv
  replace h := q_be h
  obtain ⟨a29, ea29, h⟩ := h
  subst ea29
  replace h := q_be h
  obtain ⟨u30, hv, h⟩ := h
  replace hv := q_ob_e hv
  obtain ⟨_, cu30⟩ := hv
  replace h := q_b2_e h
  obtain ⟨v31, g32, hv, h⟩ := h
  refine ⟨⟨some _, rfl⟩, ⟨some _, rfl⟩, _, _, cv26, dv26, ⟨some _, rfl⟩, _, _, cv28, dv28, ⟨_, cu30⟩, ?_⟩
  refine rX2_order hv ?_
  replace h := q_be h
  obtain ⟨v33, hv, h⟩ := h
  replace hv := q_fR_e hv
  obtain ⟨_, cv33, dv33⟩ := hv
  replace h := q_be h
  obtain ⟨a34, ea34, h⟩ := h
  subst ea34
  replace h := q_be h
  obtain ⟨v35, hv, h⟩ := h
  replace hv := q_fR_e hv
  obtain ⟨_, cv35, dv35⟩ := hv
  replace h := q_be h
  obtain ⟨a36, ea36, h⟩ := h
  subst ea36
  replace h := q_be h
  obtain ⟨u37, hv, h⟩ := h
  replace hv := q_ob_e hv
  obtain ⟨_, cu37⟩ := hv
  replace h := q_b2_e h
  obtain ⟨v38, g39, hv, h⟩ := h
  refine ⟨rfl, ⟨some _, rfl⟩, ⟨some _, rfl⟩, _, _, cv33, dv33, ⟨some _, rfl⟩, _, _, cv35, dv35, ⟨_, cu37⟩, ?_⟩
  refine rX2_order hv ?_
  cases h
  exact ⟨rfl, rfl, rfl, hk⟩
noncomputable def jX2_decode_73_11 (g : ps_G) (k0 : Int32) : Option ((Int32 × Int32 × Int32 × Int32 × ps_G) ⊕ ((ps_G) ⊕ (Int32 × ps_G))) := some (.inr (.inr (k0, g)))
theorem pjX2_decode_73_11 {d : Nat} {Q : ps_Rs → ps_G → Prop} {g : ps_G} {k0 : Int32} {x0 : Nat} {x1 : Nat} {x2 : Nat} {x : (Int32 × Int32 × Int32 × Int32 × ps_G) ⊕ ((ps_G) ⊕ (Int32 × ps_G))} (h : jX2_decode_73_11 g k0 = some x) (hh : ∀ s' : Int32 × Int32 × Int32 × Int32 × ps_G, x = .inl s' → ps_At mX2_decode (d + 1) 11 [(0, .ref x0), (1, .ref x1), (2, .ref x2), (3, .int s'.1), (4, .int s'.2.1), (5, .int s'.2.2.1), (6, .int s'.2.2.2.1)] [] s'.2.2.2.2 Q) (he : ∀ r' : ps_G, x = .inr (.inl r') → ps_At mX2_decode (d + 1) 104 [(0, .ref x0)] [] r' Q) (hr : ∀ v' : Int32 × ps_G, x = .inr (.inr v') → Q (.inl (some (.int v'.1))) v'.2) : ps_At mX2_decode (d + 1) 73 [] [.int k0] g Q := by
  unfold jX2_decode_73_11 at h
  refine sX2_decode_73 ?_
  exact ⟨rfl, hr (k0, g) (Option.some.inj h).symm⟩
noncomputable def jX2_decode_72_11 (g : ps_G) : Option ((Int32 × Int32 × Int32 × Int32 × ps_G) ⊕ ((ps_G) ⊕ (Int32 × ps_G))) := jX2_decode_73_11 g (0 : Int32)
theorem pjX2_decode_72_11 {d : Nat} {Q : ps_Rs → ps_G → Prop} {g : ps_G}  {x0 : Nat} {x1 : Nat} {x2 : Nat} {x : (Int32 × Int32 × Int32 × Int32 × ps_G) ⊕ ((ps_G) ⊕ (Int32 × ps_G))} (h : jX2_decode_72_11 g = some x) (hh : ∀ s' : Int32 × Int32 × Int32 × Int32 × ps_G, x = .inl s' → ps_At mX2_decode (d + 1) 11 [(0, .ref x0), (1, .ref x1), (2, .ref x2), (3, .int s'.1), (4, .int s'.2.1), (5, .int s'.2.2.1), (6, .int s'.2.2.2.1)] [] s'.2.2.2.2 Q) (he : ∀ r' : ps_G, x = .inr (.inl r') → ps_At mX2_decode (d + 1) 104 [(0, .ref x0)] [] r' Q) (hr : ∀ v' : Int32 × ps_G, x = .inr (.inr v') → Q (.inl (some (.int v'.1))) v'.2) : ps_At mX2_decode (d + 1) 72 [] [] g Q := by
  unfold jX2_decode_72_11 at h
  refine sX2_decode_72 ?_
  exact ps_weak (pjX2_decode_73_11 h hh he hr) trivial
noncomputable def bX2_decode_11 (x0 : Nat) (x1 : Nat) (x2 : Nat) (x3 : Int32) (x4 : Int32) (x5 : Int32) (x6 : Int32) (g : ps_G) : Option ((Int32 × Int32 × Int32 × Int32 × ps_G) ⊕ ((ps_G) ⊕ (Int32 × ps_G))) := if (15 : Int32) < x6 then (some (.inr (.inl g))) else (Option.bind (q_fI 2 3 g x0) fun v2 => if ¬ v2 = 0 then (some (.inr (.inl g))) else (Option.bind (q_ob 2 g x0) fun u4 => q_b2 (fX2_readBits g x0 (1 : Int32)) fun v5 g6 => Option.bind (q_aI g6 x1 x6) fun v7 => if x4 ≤ ((x3 ||| v5) - v7) then (Option.bind (q_aI g6 x1 x6) fun v9 => Option.bind (q_aI g6 x1 x6) fun v10 => some (.inl (q_shl (x3 ||| v5) (1 : Int32), q_shl (x4 + v10) (1 : Int32), x5 + v9, x6 + (1 : Int32), g6))) else (if ((x5 + (x3 ||| v5)) - x4) < 0 then (jX2_decode_72_11 g6) else (Option.bind (q_len g6 x2) fun v12 => if v12 ≤ ((x5 + (x3 ||| v5)) - x4) then (jX2_decode_72_11 g6) else (Option.bind (q_aI g6 x2 ((x5 + (x3 ||| v5)) - x4)) fun v14 => jX2_decode_73_11 g6 v14)))))
theorem pbX2_decode_11 {d : Nat} {Q : ps_Rs → ps_G → Prop}  {x0 : Nat} {x1 : Nat} {x2 : Nat} {x3 : Int32} {x4 : Int32} {x5 : Int32} {x6 : Int32} {g : ps_G} {x : (Int32 × Int32 × Int32 × Int32 × ps_G) ⊕ ((ps_G) ⊕ (Int32 × ps_G))} (h : bX2_decode_11 x0 x1 x2 x3 x4 x5 x6 g = some x) (hh : ∀ s' : Int32 × Int32 × Int32 × Int32 × ps_G, x = .inl s' → ps_At mX2_decode (d + 1) 11 [(0, .ref x0), (1, .ref x1), (2, .ref x2), (3, .int s'.1), (4, .int s'.2.1), (5, .int s'.2.2.1), (6, .int s'.2.2.2.1)] [] s'.2.2.2.2 Q) (he : ∀ r' : ps_G, x = .inr (.inl r') → ps_At mX2_decode (d + 1) 104 [(0, .ref x0)] [] r' Q) (hr : ∀ v' : Int32 × ps_G, x = .inr (.inr v') → Q (.inl (some (.int v'.1))) v'.2) : ps_At mX2_decode (d + 1) 11 [(0, .ref x0), (1, .ref x1), (2, .ref x2), (3, .int x3), (4, .int x4), (5, .int x5), (6, .int x6)] [] g Q := by
  unfold bX2_decode_11 at h
  refine sX2_decode_11 ?_
  refine And.intro (fun hc1 => ?_) (fun hc1 => ?_)
  · replace h := q_ifp (hc1) h
    exact ps_weak (he g (Option.some.inj h).symm) ⟨rfl, trivial⟩
  · replace h := q_ifn (hc1) h
    replace h := q_be h
    obtain ⟨v2, hv, h⟩ := h
    replace hv := q_fI_e hv
    obtain ⟨_, cv2, dv2⟩ := hv
    refine ⟨⟨some _, rfl⟩, _, _, cv2, dv2, ?_⟩
    refine And.intro (fun hc3 => ?_) (fun hc3 => ?_)
    · replace h := q_ifp (hc3) h
      exact ps_weak (he g (Option.some.inj h).symm) ⟨rfl, trivial⟩
    · replace h := q_ifn (hc3) h
      replace h := q_be h
      obtain ⟨u4, hv, h⟩ := h
      replace hv := q_ob_e hv
      obtain ⟨_, cu4⟩ := hv
      replace h := q_b2_e h
      obtain ⟨v5, g6, hv, h⟩ := h
      refine ⟨⟨some _, rfl⟩, ⟨_, cu4⟩, ?_⟩
      refine rX2_readBits hv ?_
      replace h := q_be h
      obtain ⟨v7, hv, h⟩ := h
      replace hv := q_aI_e hv
      obtain ⟨_, _, cv7, iv7, yv7⟩ := hv
      refine ⟨by decide, ⟨some _, rfl⟩, _, _, cv7, iv7, _, yv7, ?_⟩
      refine And.intro (fun hc8 => ?_) (fun hc8 => ?_)
      · replace h := q_ifp (hc8) h
        refine sX2_decode_74 ?_
        replace h := q_be h
        obtain ⟨v9, hv, h⟩ := h
        replace hv := q_aI_e hv
        obtain ⟨_, _, cv9, iv9, yv9⟩ := hv
        replace h := q_be h
        obtain ⟨v10, hv, h⟩ := h
        replace hv := q_aI_e hv
        obtain ⟨_, _, cv10, iv10, yv10⟩ := hv
        refine ⟨⟨some _, rfl⟩, _, _, cv9, iv9, _, yv9, by decide, ⟨some _, rfl⟩, _, _, cv10, iv10, _, yv10, by decide, by decide, by decide, ?_⟩
        exact ps_weak (hh (q_shl (x3 ||| v5) (1 : Int32), q_shl (x4 + v10) (1 : Int32), x5 + v9, x6 + (1 : Int32), g6) (Option.some.inj h).symm) ⟨rfl, rfl, rfl, rfl, rfl, rfl, rfl, trivial⟩
      · replace h := q_ifn (hc8) h
        refine ⟨by decide, ?_⟩
        refine And.intro (fun hc11 => ?_) (fun hc11 => ?_)
        · replace h := q_ifp (hc11) h
          exact ps_weak (pjX2_decode_72_11 h hh he hr) trivial
        · replace h := q_ifn (hc11) h
          replace h := q_be h
          obtain ⟨v12, hv, h⟩ := h
          replace hv := q_len_e hv
          obtain ⟨_, _, cv12, qv12, yv12⟩ := hv
          refine ⟨⟨some _, rfl⟩, _, _, cv12, qv12, _, yv12, ?_⟩
          refine And.intro (fun hc13 => ?_) (fun hc13 => ?_)
          · replace h := q_ifp (hc13) h
            exact ps_weak (pjX2_decode_72_11 h hh he hr) trivial
          · replace h := q_ifn (hc13) h
            replace h := q_be h
            obtain ⟨v14, hv, h⟩ := h
            replace hv := q_aI_e hv
            obtain ⟨_, _, cv14, iv14, yv14⟩ := hv
            refine ⟨⟨some _, rfl⟩, _, _, cv14, iv14, _, yv14, ?_⟩
            exact ps_weak (pjX2_decode_73_11 h hh he hr) trivial
noncomputable def jX2_decode_104 (g : ps_G) (x0 : Nat) : Option (Int32 × ps_G) := Option.bind (q_sB 2 3 g x0 (1 : Int32)) fun g27 => some ((0 : Int32), g27)
theorem pjX2_decode_104 {d : Nat} {Q : ps_Rs → ps_G → Prop} {g : ps_G} {x0 : Nat} {r : Int32 × ps_G} (h : jX2_decode_104 g x0 = some r) (hk : Q (.inl (some (.int r.1))) r.2) : ps_At mX2_decode (d + 1) 104 [(0, .ref x0)] [] g Q := by
  unfold jX2_decode_104 at h
  refine sX2_decode_104 ?_
  replace h := q_be h
  obtain ⟨g27, hv, h⟩ := h
  replace hv := q_sB_e hv
  obtain ⟨_, cg27, dg27, ng27, yg27⟩ := hv
  cases h
  exact ⟨⟨some _, rfl⟩, _, cg27, dg27, ng27.1, ng27.2, _, yg27, rfl, hk⟩
noncomputable def fX2_decode (g : ps_G) (x0 : Nat) (x1 : Nat) (x2 : Nat) : Option (Int32 × ps_G) := Option.bind (q_lp (fun s => bX2_decode_11 x0 x1 x2 s.1 s.2.1 s.2.2.1 s.2.2.2.1 s.2.2.2.2) ((0 : Int32), (0 : Int32), (0 : Int32), (1 : Int32), g)) fun s25 => Sum.elim (fun r26 => jX2_decode_104 r26 x0) (fun v28 => some v28) s25
theorem rX2_decode {d : Nat} {Q : ps_Rs → ps_G → Prop} {g : ps_G} {x0 : Nat} {x1 : Nat} {x2 : Nat} {r : Int32 × ps_G} (h : fX2_decode g x0 x1 x2 = some r) (hk : Q (.inl (some (.int r.1))) r.2) : ps_Ok mX2_decode (d + 1) [.ref x0, .ref x1, .ref x2] g Q := by
  unfold fX2_decode at h
  refine sX2_decode_0 ?_
  refine ⟨by decide, by decide, by decide, by decide, ?_⟩
  replace h := q_be h
  obtain ⟨s25, hl, h⟩ := h
  refine ps_weak (q_lp_ok hl (fun s => ps_At mX2_decode (d + 1) 11 [(0, .ref x0), (1, .ref x1), (2, .ref x2), (3, .int s.1), (4, .int s.2.1), (5, .int s.2.2.1), (6, .int s.2.2.2.1)] [] s.2.2.2.2 Q) (Sum.elim (fun r => ps_At mX2_decode (d + 1) 104 [(0, .ref x0)] [] r Q) (fun v => Q (.inl (some (.int v.1))) v.2)) (fun s x hb hh he => pbX2_decode_11 hb hh (fun _ e => he _ e) (fun _ e => he _ e)) ?_) ⟨rfl, rfl, rfl, rfl, rfl, rfl, rfl, trivial⟩
  rcases s25 with r26 | v28
  · refine (?_ : ps_At mX2_decode (d + 1) 104 [(0, .ref x0)] [] r26 Q)
    exact ps_weak (pjX2_decode_104 h hk) ⟨rfl, trivial⟩
  · cases h
    exact hk
noncomputable def jX2_at_29 (g : ps_G) (k0 : Int32) : Option (Int32) := some k0
theorem pjX2_at_29 {d : Nat} {Q : ps_Rs → ps_G → Prop} {g : ps_G} {k0 : Int32} {r : Int32} (h : jX2_at_29 g k0 = some r) (hk : Q (.inl (some (.int r))) g) : ps_At mX2_at d 29 [] [.int k0] g Q := by
  unfold jX2_at_29 at h
  refine sX2_at_29 ?_
  cases h
  exact ⟨rfl, hk⟩
noncomputable def jX2_at_28 (g : ps_G) : Option (Int32) := jX2_at_29 g (0 : Int32)
theorem pjX2_at_28 {d : Nat} {Q : ps_Rs → ps_G → Prop} {g : ps_G}  {r : Int32} (h : jX2_at_28 g = some r) (hk : Q (.inl (some (.int r))) g) : ps_At mX2_at d 28 [] [] g Q := by
  unfold jX2_at_28 at h
  refine sX2_at_28 ?_
  exact ps_weak (pjX2_at_29 h hk) trivial
noncomputable def fX2_at (g : ps_G) (x0 : Nat) (x1 : Int32) : Option (Int32) := if x1 < 0 then (jX2_at_28 g) else (Option.bind (q_fI 2 5 g x0) fun v2 => if (v2 ≤ x1) ∨ ((2328 : Int32) ≤ x1) then (jX2_at_28 g) else (Option.bind (q_fR 2 4 g x0) fun v5 => Option.bind (v5) fun a6 => Option.bind (q_aI g a6 x1) fun v7 => jX2_at_29 g v7))
theorem rX2_at {d : Nat} {Q : ps_Rs → ps_G → Prop} {g : ps_G} {x0 : Nat} {x1 : Int32} {r : Int32} (h : fX2_at g x0 x1 = some r) (hk : Q (.inl (some (.int r))) g) : ps_Ok mX2_at d [.ref x0, .int x1] g Q := by
  unfold fX2_at at h
  refine sX2_at_0 ?_
  refine And.intro (fun hc1 => ?_) (fun hc1 => ?_)
  · replace h := q_ifp (hc1) h
    exact ps_weak (pjX2_at_28 h hk) trivial
  · replace h := q_ifn (hc1) h
    replace h := q_be h
    obtain ⟨v2, hv, h⟩ := h
    replace hv := q_fI_e hv
    obtain ⟨_, cv2, dv2⟩ := hv
    have kT8 : (jX2_at_28 g) = some r → ps_At mX2_at d 28 [] [] g Q := fun h => by
      exact ps_weak (pjX2_at_28 h hk) trivial
    refine ⟨⟨some _, rfl⟩, _, _, cv2, dv2, ?_⟩
    refine And.intro (fun hc3 => ?_) (fun hc3 => ?_)
    · exact ps_weak (kT8 (q_ifp (Or.inl hc3) h)) trivial
    · refine And.intro (fun hc4 => ?_) (fun hc4 => ?_)
      · exact ps_weak (kT8 (q_ifp (Or.inr (hc4)) h)) trivial
      · replace h := q_ifn (not_or.mpr ⟨hc3, hc4⟩) h
        replace h := q_be h
        obtain ⟨v5, hv, h⟩ := h
        replace hv := q_fR_e hv
        obtain ⟨_, cv5, dv5⟩ := hv
        replace h := q_be h
        obtain ⟨a6, ea6, h⟩ := h
        subst ea6
        replace h := q_be h
        obtain ⟨v7, hv, h⟩ := h
        replace hv := q_aI_e hv
        obtain ⟨_, _, cv7, iv7, yv7⟩ := hv
        refine ⟨⟨some _, rfl⟩, _, _, cv5, dv5, _, _, cv7, iv7, _, yv7, ?_⟩
        exact ps_weak (pjX2_at_29 h hk) trivial
noncomputable def jX2_copy_12 (g : ps_G) (x0 : Nat) : Option (ps_G) := Option.bind (q_sB 2 3 g x0 (1 : Int32)) fun g2 => some g2
theorem pjX2_copy_12 {d : Nat} {Q : ps_Rs → ps_G → Prop} {g : ps_G} {x0 : Nat} {r : ps_G} (h : jX2_copy_12 g x0 = some r) (hk : Q (.inl none) r) : ps_At mX2_copy (d + 2) 12 [(0, .ref x0)] [] g Q := by
  unfold jX2_copy_12 at h
  refine sX2_copy_12 ?_
  replace h := q_be h
  obtain ⟨g2, hv, h⟩ := h
  replace hv := q_sB_e hv
  obtain ⟨_, cg2, dg2, ng2, yg2⟩ := hv
  cases h
  exact ⟨⟨some _, rfl⟩, _, cg2, dg2, ng2.1, ng2.2, _, yg2, rfl, rfl, hk⟩
noncomputable def jX2_copy_66 (g : ps_G) (x0 : Nat) : Option (ps_G) := Option.bind (q_sB 2 3 g x0 (1 : Int32)) fun g20 => some g20
theorem pjX2_copy_66 {d : Nat} {Q : ps_Rs → ps_G → Prop} {g : ps_G} {x0 : Nat} {r : ps_G} (h : jX2_copy_66 g x0 = some r) (hk : Q (.inl none) r) : ps_At mX2_copy (d + 2) 66 [(0, .ref x0)] [] g Q := by
  unfold jX2_copy_66 at h
  refine sX2_copy_66 ?_
  replace h := q_be h
  obtain ⟨g20, hv, h⟩ := h
  replace hv := q_sB_e hv
  obtain ⟨_, cg20, dg20, ng20, yg20⟩ := hv
  cases h
  exact ⟨⟨some _, rfl⟩, _, cg20, dg20, ng20.1, ng20.2, _, yg20, rfl, rfl, hk⟩
noncomputable def bX2_copy_115 (x0 : Nat) (x2 : Int32) (x4 : Int32) (x5 : Int32) (g : ps_G) : Option ((Int32 × ps_G) ⊕ (ps_G)) := if x2 ≤ x5 then (some (.inr g)) else (Option.bind (q_fI 2 3 g x0) fun v36 => if ¬ v36 = 0 then (some (.inr g)) else (Option.bind (q_fI 2 5 g x0) fun v39 => Option.bind (q_ob 2 g x0) fun u40 => Option.bind (fX2_at g x0 (v39 - x4)) fun v41 => Option.bind (q_ob 2 g x0) fun u42 => Option.bind (fX2_emit g x0 v41) fun v43 => some (.inl (x5 + (1 : Int32), v43))))
theorem pbX2_copy_115 {d : Nat} {Q : ps_Rs → ps_G → Prop}  {x0 : Nat} {x2 : Int32} {x4 : Int32} {x5 : Int32} {g : ps_G} {x : (Int32 × ps_G) ⊕ (ps_G)} (h : bX2_copy_115 x0 x2 x4 x5 g = some x) (hh : ∀ s' : Int32 × ps_G, x = .inl s' → ps_At mX2_copy (d + 2) 115 [(0, .ref x0), (2, .int x2), (4, .int x4), (5, .int s'.1)] [] s'.2 Q) (he : ∀ r' : ps_G, x = .inr r' → ps_At mX2_copy (d + 2) 149 [] [] r' Q) : ps_At mX2_copy (d + 2) 115 [(0, .ref x0), (2, .int x2), (4, .int x4), (5, .int x5)] [] g Q := by
  unfold bX2_copy_115 at h
  refine sX2_copy_115 ?_
  refine And.intro (fun hc34 => ?_) (fun hc34 => ?_)
  · replace h := q_ifp (hc34) h
    exact ps_weak (he g (Option.some.inj h).symm) trivial
  · replace h := q_ifn (hc34) h
    replace h := q_be h
    obtain ⟨v36, hv, h⟩ := h
    replace hv := q_fI_e hv
    obtain ⟨_, cv36, dv36⟩ := hv
    refine ⟨⟨some _, rfl⟩, _, _, cv36, dv36, ?_⟩
    refine And.intro (fun hc37 => ?_) (fun hc37 => ?_)
    · replace h := q_ifp (hc37) h
      exact ps_weak (he g (Option.some.inj h).symm) trivial
    · replace h := q_ifn (hc37) h
      replace h := q_be h
      obtain ⟨v39, hv, h⟩ := h
      replace hv := q_fI_e hv
      obtain ⟨_, cv39, dv39⟩ := hv
      replace h := q_be h
      obtain ⟨u40, hv, h⟩ := h
      replace hv := q_ob_e hv
      obtain ⟨_, cu40⟩ := hv
      replace h := q_be h
      obtain ⟨v41, hv, h⟩ := h
      refine ⟨⟨some _, rfl⟩, ⟨some _, rfl⟩, ⟨some _, rfl⟩, _, _, cv39, dv39, ⟨_, cu40⟩, ?_⟩
      refine rX2_at hv ?_
      replace h := q_be h
      obtain ⟨u42, hv, h⟩ := h
      replace hv := q_ob_e hv
      obtain ⟨_, cu42⟩ := hv
      replace h := q_be h
      obtain ⟨v43, hv, h⟩ := h
      refine ⟨⟨_, cu42⟩, ?_⟩
      refine rX2_emit hv ?_
      refine ⟨by decide, ?_⟩
      exact ps_weak (hh (x5 + (1 : Int32), v43) (Option.some.inj h).symm) ⟨rfl, rfl, rfl, rfl, trivial⟩
noncomputable def jX2_copy_149 (g : ps_G) : Option (ps_G) := some g
theorem pjX2_copy_149 {d : Nat} {Q : ps_Rs → ps_G → Prop} {g : ps_G}  {r : ps_G} (h : jX2_copy_149 g = some r) (hk : Q (.inl none) r) : ps_At mX2_copy (d + 2) 149 [] [] g Q := by
  unfold jX2_copy_149 at h
  refine sX2_copy_149 ?_
  cases h
  exact ⟨rfl, rfl, hk⟩
noncomputable def fX2_copy (g : ps_G) (x0 : Nat) (x1 : Int32) : Option (ps_G) := if x1 < 0 then (jX2_copy_12 g x0) else (Option.bind (q_len g 2) fun v3 => if x1 < v3 then (Option.bind (q_aI g 2 x1) fun v5 => Option.bind (q_aI g 3 x1) fun v6 => Option.bind (q_ob 2 g x0) fun u7 => q_b2 (fX2_readBits g x0 v6) fun v8 g9 => Option.bind (q_fR 2 10 g9 x0) fun v10 => Option.bind (v10) fun a11 => Option.bind (q_fR 2 11 g9 x0) fun v12 => Option.bind (v12) fun a13 => Option.bind (q_ob 2 g9 x0) fun u14 => q_b2 (fX2_decode g9 x0 a11 a13) fun v15 g16 => Option.bind (q_fI 2 3 g16 x0) fun v17 => if (¬ v17 = 0) ∨ (v15 < 0) then (jX2_copy_66 g16 x0) else (Option.bind (q_len g16 4) fun v21 => if v15 < v21 then (Option.bind (q_aI g16 4 v15) fun v23 => Option.bind (q_aI g16 5 v15) fun v24 => Option.bind (q_ob 2 g16 x0) fun u25 => q_b2 (fX2_readBits g16 x0 v24) fun v26 g27 => Option.bind (q_fI 2 3 g27 x0) fun v28 => Option.bind (q_fI 2 5 g27 x0) fun v29 => Option.bind (q_sB 2 3 g27 x0 (v28 ||| (if (v23 + v26) ≤ v29 then (0 : Int32) else (1 : Int32)))) fun g33 => Option.bind (q_lp (fun s => bX2_copy_115 x0 (v5 + v8) (v23 + v26) s.1 s.2) ((0 : Int32), g33)) fun s48 => jX2_copy_149 s48) else (jX2_copy_66 g16 x0))) else (jX2_copy_12 g x0))
theorem rX2_copy {d : Nat} {Q : ps_Rs → ps_G → Prop} {g : ps_G} {x0 : Nat} {x1 : Int32} {r : ps_G} (h : fX2_copy g x0 x1 = some r) (hk : Q (.inl none) r) : ps_Ok mX2_copy (d + 2) [.ref x0, .int x1] g Q := by
  unfold fX2_copy at h
  refine sX2_copy_0 ?_
  refine And.intro (fun hc1 => ?_) (fun hc1 => ?_)
  · replace h := q_ifp (hc1) h
    exact ps_weak (pjX2_copy_12 h hk) ⟨rfl, trivial⟩
  · replace h := q_ifn (hc1) h
    replace h := q_be h
    obtain ⟨v3, hv, h⟩ := h
    replace hv := q_len_e hv
    obtain ⟨_, _, cv3, qv3, yv3⟩ := hv
    refine ⟨_, _, cv3, qv3, _, yv3, ?_⟩
    refine And.intro (fun hc4 => ?_) (fun hc4 => ?_)
    · replace h := q_ifp (hc4) h
      refine sX2_copy_18 ?_
      replace h := q_be h
      obtain ⟨v5, hv, h⟩ := h
      replace hv := q_aI_e hv
      obtain ⟨_, _, cv5, iv5, yv5⟩ := hv
      replace h := q_be h
      obtain ⟨v6, hv, h⟩ := h
      replace hv := q_aI_e hv
      obtain ⟨_, _, cv6, iv6, yv6⟩ := hv
      replace h := q_be h
      obtain ⟨u7, hv, h⟩ := h
      replace hv := q_ob_e hv
      obtain ⟨_, cu7⟩ := hv
      replace h := q_b2_e h
      obtain ⟨v8, g9, hv, h⟩ := h
      refine ⟨_, _, cv5, iv5, _, yv5, ⟨some _, rfl⟩, _, _, cv6, iv6, _, yv6, ⟨_, cu7⟩, ?_⟩
      refine rX2_readBits hv ?_
      replace h := q_be h
      obtain ⟨v10, hv, h⟩ := h
      replace hv := q_fR_e hv
      obtain ⟨_, cv10, dv10⟩ := hv
      replace h := q_be h
      obtain ⟨a11, ea11, h⟩ := h
      subst ea11
      replace h := q_be h
      obtain ⟨v12, hv, h⟩ := h
      replace hv := q_fR_e hv
      obtain ⟨_, cv12, dv12⟩ := hv
      replace h := q_be h
      obtain ⟨a13, ea13, h⟩ := h
      subst ea13
      replace h := q_be h
      obtain ⟨u14, hv, h⟩ := h
      replace hv := q_ob_e hv
      obtain ⟨_, cu14⟩ := hv
      replace h := q_b2_e h
      obtain ⟨v15, g16, hv, h⟩ := h
      refine ⟨by decide, ⟨some _, rfl⟩, ⟨some _, rfl⟩, _, _, cv10, dv10, ⟨some _, rfl⟩, _, _, cv12, dv12, ⟨_, cu14⟩, ?_⟩
      refine rX2_decode hv ?_
      replace h := q_be h
      obtain ⟨v17, hv, h⟩ := h
      replace hv := q_fI_e hv
      obtain ⟨_, cv17, dv17⟩ := hv
      have kT51 : (jX2_copy_66 g16 x0) = some r → ps_At mX2_copy (d + 2) 66 [(0, .ref x0)] [] g16 Q := fun h => by
        exact ps_weak (pjX2_copy_66 h hk) ⟨rfl, trivial⟩
      refine ⟨by decide, ⟨some _, rfl⟩, _, _, cv17, dv17, ?_⟩
      refine And.intro (fun hc18 => ?_) (fun hc18 => ?_)
      · exact ps_weak (kT51 (q_ifp (Or.inl hc18) h)) ⟨rfl, trivial⟩
      · refine And.intro (fun hc19 => ?_) (fun hc19 => ?_)
        · exact ps_weak (kT51 (q_ifp (Or.inr (hc19)) h)) ⟨rfl, trivial⟩
        · replace h := q_ifn (not_or.mpr ⟨hc18, hc19⟩) h
          replace h := q_be h
          obtain ⟨v21, hv, h⟩ := h
          replace hv := q_len_e hv
          obtain ⟨_, _, cv21, qv21, yv21⟩ := hv
          refine ⟨_, _, cv21, qv21, _, yv21, ?_⟩
          refine And.intro (fun hc22 => ?_) (fun hc22 => ?_)
          · replace h := q_ifp (hc22) h
            refine sX2_copy_72 ?_
            replace h := q_be h
            obtain ⟨v23, hv, h⟩ := h
            replace hv := q_aI_e hv
            obtain ⟨_, _, cv23, iv23, yv23⟩ := hv
            replace h := q_be h
            obtain ⟨v24, hv, h⟩ := h
            replace hv := q_aI_e hv
            obtain ⟨_, _, cv24, iv24, yv24⟩ := hv
            replace h := q_be h
            obtain ⟨u25, hv, h⟩ := h
            replace hv := q_ob_e hv
            obtain ⟨_, cu25⟩ := hv
            replace h := q_b2_e h
            obtain ⟨v26, g27, hv, h⟩ := h
            refine ⟨_, _, cv23, iv23, _, yv23, ⟨some _, rfl⟩, _, _, cv24, iv24, _, yv24, ⟨_, cu25⟩, ?_⟩
            refine rX2_readBits hv ?_
            replace h := q_be h
            obtain ⟨v28, hv, h⟩ := h
            replace hv := q_fI_e hv
            obtain ⟨_, cv28, dv28⟩ := hv
            replace h := q_be h
            obtain ⟨v29, hv, h⟩ := h
            replace hv := q_fI_e hv
            obtain ⟨_, cv29, dv29⟩ := hv
            have kJ32 : ∀ w31 : Int32, w31 = (if (v23 + v26) ≤ v29 then (0 : Int32) else (1 : Int32)) → ps_At mX2_copy (d + 2) 108 [(0, .ref x0), (2, .int (v5 + v8)), (4, .int (v23 + v26))] [.int w31, .int v28, .ref x0] g27 Q := by
              rintro _ rfl
              refine sX2_copy_108 ?_
              replace h := q_be h
              obtain ⟨g33, hv, h⟩ := h
              replace hv := q_sB_e hv
              obtain ⟨_, cg33, dg33, ng33, yg33⟩ := hv
              refine ⟨_, cg33, dg33, ng33.1, ng33.2, _, yg33, by decide, ?_⟩
              replace h := q_be h
              obtain ⟨s48, hl, h⟩ := h
              refine ps_weak (q_lp_ok hl (fun s => ps_At mX2_copy (d + 2) 115 [(0, .ref x0), (2, .int (v5 + v8)), (4, .int (v23 + v26)), (5, .int s.1)] [] s.2 Q) (fun r => ps_At mX2_copy (d + 2) 149 [] [] r Q) (fun s x hb hh he => pbX2_copy_115 hb hh he) ?_) ⟨rfl, rfl, rfl, rfl, trivial⟩
              refine (?_ : ps_At mX2_copy (d + 2) 149 [] [] s48 Q)
              exact ps_weak (pjX2_copy_149 h hk) trivial
            refine ⟨by decide, ⟨some _, rfl⟩, rfl, _, _, cv28, dv28, ⟨some _, rfl⟩, _, _, cv29, dv29, ?_⟩
            refine And.intro (fun hc30 => ?_) (fun hc30 => ?_)
            · refine sX2_copy_107 ?_
              exact ps_weak (kJ32 _ (if_pos (hc30)).symm) ⟨rfl, rfl, rfl, trivial⟩
            · exact ps_weak (kJ32 _ (if_neg (hc30)).symm) ⟨rfl, rfl, rfl, trivial⟩
          · replace h := q_ifn (hc22) h
            exact ps_weak (pjX2_copy_66 h hk) ⟨rfl, trivial⟩
    · replace h := q_ifn (hc4) h
      exact ps_weak (pjX2_copy_12 h hk) ⟨rfl, trivial⟩
noncomputable def jX2_symbols_67_2 (g : ps_G) (x0 : Nat) (x1 : Int32) : Option ((Int32 × ps_G) ⊕ ((ps_G) ⊕ (ps_G))) := some (.inl (x1 + (1 : Int32), g))
theorem pjX2_symbols_67_2 {d : Nat} {Q : ps_Rs → ps_G → Prop} {g : ps_G} {x0 : Nat} {x1 : Int32} {x : (Int32 × ps_G) ⊕ ((ps_G) ⊕ (ps_G))} (h : jX2_symbols_67_2 g x0 x1 = some x) (hh : ∀ s' : Int32 × ps_G, x = .inl s' → ps_At mX2_symbols (d + 3) 2 [(0, .ref x0), (1, .int s'.1)] [] s'.2 Q) (he : ∀ r' : ps_G, x = .inr (.inl r') → ps_At mX2_symbols (d + 3) 73 [] [] r' Q) (hr : ∀ v' : ps_G, x = .inr (.inr v') → Q (.inl none) v') : ps_At mX2_symbols (d + 3) 67 [(0, .ref x0), (1, .int x1)] [] g Q := by
  unfold jX2_symbols_67_2 at h
  refine sX2_symbols_67 ?_
  refine ⟨by decide, ?_⟩
  exact ps_weak (hh (x1 + (1 : Int32), g) (Option.some.inj h).symm) ⟨rfl, rfl, trivial⟩
noncomputable def bX2_symbols_2 (x0 : Nat) (x1 : Int32) (g : ps_G) : Option ((Int32 × ps_G) ⊕ ((ps_G) ⊕ (ps_G))) := if (64000 : Int32) ≤ x1 then (some (.inr (.inl g))) else (Option.bind (q_fI 2 3 g x0) fun v2 => if ¬ v2 = 0 then (some (.inr (.inl g))) else (Option.bind (q_fR 2 8 g x0) fun v4 => Option.bind (v4) fun a5 => Option.bind (q_fR 2 9 g x0) fun v6 => Option.bind (v6) fun a7 => Option.bind (q_ob 2 g x0) fun u8 => q_b2 (fX2_decode g x0 a5 a7) fun v9 g10 => Option.bind (q_fI 2 3 g10 x0) fun v11 => if ¬ (¬ v11 = 0) ∧ (¬ v9 = (256 : Int32)) then (if (256 : Int32) ≤ v9 then (Option.bind (q_ob 2 g10 x0) fun u16 => Option.bind (fX2_copy g10 x0 (v9 - (257 : Int32))) fun v17 => jX2_symbols_67_2 v17 x0 x1) else (Option.bind (q_ob 2 g10 x0) fun u18 => Option.bind (fX2_emit g10 x0 v9) fun v19 => jX2_symbols_67_2 v19 x0 x1)) else (some (.inr (.inr g10)))))
theorem pbX2_symbols_2 {d : Nat} {Q : ps_Rs → ps_G → Prop}  {x0 : Nat} {x1 : Int32} {g : ps_G} {x : (Int32 × ps_G) ⊕ ((ps_G) ⊕ (ps_G))} (h : bX2_symbols_2 x0 x1 g = some x) (hh : ∀ s' : Int32 × ps_G, x = .inl s' → ps_At mX2_symbols (d + 3) 2 [(0, .ref x0), (1, .int s'.1)] [] s'.2 Q) (he : ∀ r' : ps_G, x = .inr (.inl r') → ps_At mX2_symbols (d + 3) 73 [] [] r' Q) (hr : ∀ v' : ps_G, x = .inr (.inr v') → Q (.inl none) v') : ps_At mX2_symbols (d + 3) 2 [(0, .ref x0), (1, .int x1)] [] g Q := by
  unfold bX2_symbols_2 at h
  refine sX2_symbols_2 ?_
  refine And.intro (fun hc1 => ?_) (fun hc1 => ?_)
  · replace h := q_ifp (hc1) h
    exact ps_weak (he g (Option.some.inj h).symm) trivial
  · replace h := q_ifn (hc1) h
    replace h := q_be h
    obtain ⟨v2, hv, h⟩ := h
    replace hv := q_fI_e hv
    obtain ⟨_, cv2, dv2⟩ := hv
    refine ⟨⟨some _, rfl⟩, _, _, cv2, dv2, ?_⟩
    refine And.intro (fun hc3 => ?_) (fun hc3 => ?_)
    · replace h := q_ifp (hc3) h
      exact ps_weak (he g (Option.some.inj h).symm) trivial
    · replace h := q_ifn (hc3) h
      replace h := q_be h
      obtain ⟨v4, hv, h⟩ := h
      replace hv := q_fR_e hv
      obtain ⟨_, cv4, dv4⟩ := hv
      replace h := q_be h
      obtain ⟨a5, ea5, h⟩ := h
      subst ea5
      replace h := q_be h
      obtain ⟨v6, hv, h⟩ := h
      replace hv := q_fR_e hv
      obtain ⟨_, cv6, dv6⟩ := hv
      replace h := q_be h
      obtain ⟨a7, ea7, h⟩ := h
      subst ea7
      replace h := q_be h
      obtain ⟨u8, hv, h⟩ := h
      replace hv := q_ob_e hv
      obtain ⟨_, cu8⟩ := hv
      replace h := q_b2_e h
      obtain ⟨v9, g10, hv, h⟩ := h
      refine ⟨⟨some _, rfl⟩, ⟨some _, rfl⟩, _, _, cv4, dv4, ⟨some _, rfl⟩, _, _, cv6, dv6, ⟨_, cu8⟩, ?_⟩
      refine rX2_decode hv ?_
      replace h := q_be h
      obtain ⟨v11, hv, h⟩ := h
      replace hv := q_fI_e hv
      obtain ⟨_, cv11, dv11⟩ := hv
      have kF23 : (some (.inr (.inr g10))) = some x → ps_At mX2_symbols (d + 3) 42 [] [] g10 Q := fun h => by
        refine sX2_symbols_42 ?_
        exact ⟨rfl, rfl, hr g10 (Option.some.inj h).symm⟩
      refine ⟨by decide, ⟨some _, rfl⟩, _, _, cv11, dv11, ?_⟩
      refine And.intro (fun hc12 => ?_) (fun hc12 => ?_)
      · exact ps_weak (kF23 (q_ifn (fun z => z.1 hc12) h)) trivial
      · refine And.intro (fun hc13 => ?_) (fun hc13 => ?_)
        · replace h := q_ifp (⟨hc12, hc13⟩) h
          refine sX2_symbols_43 ?_
          refine And.intro (fun hc14 => ?_) (fun hc14 => ?_)
          · replace h := q_ifp (hc14) h
            refine sX2_symbols_58 ?_
            replace h := q_be h
            obtain ⟨u16, hv, h⟩ := h
            replace hv := q_ob_e hv
            obtain ⟨_, cu16⟩ := hv
            replace h := q_be h
            obtain ⟨v17, hv, h⟩ := h
            refine ⟨⟨some _, rfl⟩, ⟨_, cu16⟩, ?_⟩
            refine rX2_copy hv ?_
            exact ps_weak (pjX2_symbols_67_2 h hh he hr) ⟨rfl, rfl, trivial⟩
          · replace h := q_ifn (hc14) h
            replace h := q_be h
            obtain ⟨u18, hv, h⟩ := h
            replace hv := q_ob_e hv
            obtain ⟨_, cu18⟩ := hv
            replace h := q_be h
            obtain ⟨v19, hv, h⟩ := h
            refine ⟨⟨some _, rfl⟩, ⟨_, cu18⟩, ?_⟩
            refine rX2_emit hv ?_
            exact ps_weak (pjX2_symbols_67_2 h hh he hr) ⟨rfl, rfl, trivial⟩
        · exact ps_weak (kF23 (q_ifn (fun z => hc13 z.2) h)) trivial
noncomputable def jX2_symbols_73 (g : ps_G) : Option (ps_G) := some g
theorem pjX2_symbols_73 {d : Nat} {Q : ps_Rs → ps_G → Prop} {g : ps_G}  {r : ps_G} (h : jX2_symbols_73 g = some r) (hk : Q (.inl none) r) : ps_At mX2_symbols (d + 3) 73 [] [] g Q := by
  unfold jX2_symbols_73 at h
  refine sX2_symbols_73 ?_
  cases h
  exact ⟨rfl, rfl, hk⟩
noncomputable def fX2_symbols (g : ps_G) (x0 : Nat) : Option (ps_G) := Option.bind (q_lp (fun s => bX2_symbols_2 x0 s.1 s.2) ((0 : Int32), g)) fun s28 => Sum.elim (fun r29 => jX2_symbols_73 r29) (fun v30 => some v30) s28
theorem rX2_symbols {d : Nat} {Q : ps_Rs → ps_G → Prop} {g : ps_G} {x0 : Nat} {r : ps_G} (h : fX2_symbols g x0 = some r) (hk : Q (.inl none) r) : ps_Ok mX2_symbols (d + 3) [.ref x0] g Q := by
  unfold fX2_symbols at h
  refine sX2_symbols_0 ?_
  refine ⟨by decide, ?_⟩
  replace h := q_be h
  obtain ⟨s28, hl, h⟩ := h
  refine ps_weak (q_lp_ok hl (fun s => ps_At mX2_symbols (d + 3) 2 [(0, .ref x0), (1, .int s.1)] [] s.2 Q) (Sum.elim (fun r => ps_At mX2_symbols (d + 3) 73 [] [] r Q) (fun v => Q (.inl none) v)) (fun s x hb hh he => pbX2_symbols_2 hb hh (fun _ e => he _ e) (fun _ e => he _ e)) ?_) ⟨rfl, rfl, trivial⟩
  rcases s28 with r29 | v30
  · refine (?_ : ps_At mX2_symbols (d + 3) 73 [] [] r29 Q)
    exact ps_weak (pjX2_symbols_73 h hk) trivial
  · cases h
    exact hk
noncomputable def jX2_areRight_29 (g : ps_G) (k0 : Int32) : Option (Int32) := Option.bind (q_bl k0) fun v2 => some v2
theorem pjX2_areRight_29 {d : Nat} {Q : ps_Rs → ps_G → Prop} {g : ps_G} {k0 : Int32} {r : Int32} (h : jX2_areRight_29 g k0 = some r) (hk : Q (.inl (some (.int r))) g) : ps_At mX2_areRight d 29 [] [.int k0] g Q := by
  unfold jX2_areRight_29 at h
  refine sX2_areRight_29 ?_
  replace h := q_be h
  obtain ⟨v2, hv, h⟩ := h
  replace hv := q_bl_e hv
  obtain ⟨zv2, rfl⟩ := hv
  cases h
  exact ⟨rfl, zv2, hk⟩
noncomputable def jX2_areRight_24 (g : ps_G) : Option (Int32) := jX2_areRight_29 g (1 : Int32)
theorem pjX2_areRight_24 {d : Nat} {Q : ps_Rs → ps_G → Prop} {g : ps_G}  {r : Int32} (h : jX2_areRight_24 g = some r) (hk : Q (.inl (some (.int r))) g) : ps_At mX2_areRight d 24 [] [] g Q := by
  unfold jX2_areRight_24 at h
  refine sX2_areRight_24 ?_
  exact ps_weak (pjX2_areRight_29 h hk) trivial
noncomputable def jX2_areRight_28 (g : ps_G) : Option (Int32) := jX2_areRight_29 g (0 : Int32)
theorem pjX2_areRight_28 {d : Nat} {Q : ps_Rs → ps_G → Prop} {g : ps_G}  {r : Int32} (h : jX2_areRight_28 g = some r) (hk : Q (.inl (some (.int r))) g) : ps_At mX2_areRight d 28 [] [] g Q := by
  unfold jX2_areRight_28 at h
  refine sX2_areRight_28 ?_
  exact ps_weak (pjX2_areRight_29 h hk) trivial
noncomputable def fX2_areRight (g : ps_G) (x0 : Int32) (x1 : Nat) (x2 : Int32) : Option (Int32) := if x0 = 0 then (jX2_areRight_24 g) else (if x0 ≤ 0 then (jX2_areRight_28 g) else (Option.bind (q_aI g x1 (1 : Int32)) fun v4 => if ¬ v4 = (1 : Int32) then (jX2_areRight_28 g) else (Option.bind (q_aI g x1 (0 : Int32)) fun v6 => if ¬ v6 = (x2 - (1 : Int32)) then (jX2_areRight_28 g) else (jX2_areRight_24 g))))
theorem rX2_areRight {d : Nat} {Q : ps_Rs → ps_G → Prop} {g : ps_G} {x0 : Int32} {x1 : Nat} {x2 : Int32} {r : Int32} (h : fX2_areRight g x0 x1 x2 = some r) (hk : Q (.inl (some (.int r))) g) : ps_Ok mX2_areRight d [.int x0, .ref x1, .int x2] g Q := by
  unfold fX2_areRight at h
  refine sX2_areRight_0 ?_
  refine And.intro (fun hc1 => ?_) (fun hc1 => ?_)
  · replace h := q_ifp (hc1) h
    exact ps_weak (pjX2_areRight_24 h hk) trivial
  · replace h := q_ifn (hc1) h
    refine And.intro (fun hc3 => ?_) (fun hc3 => ?_)
    · replace h := q_ifp (hc3) h
      exact ps_weak (pjX2_areRight_28 h hk) trivial
    · replace h := q_ifn (hc3) h
      replace h := q_be h
      obtain ⟨v4, hv, h⟩ := h
      replace hv := q_aI_e hv
      obtain ⟨_, _, cv4, iv4, yv4⟩ := hv
      refine ⟨⟨some _, rfl⟩, _, _, cv4, iv4, _, yv4, ?_⟩
      refine And.intro (fun hc5 => ?_) (fun hc5 => ?_)
      · replace h := q_ifp (hc5) h
        exact ps_weak (pjX2_areRight_28 h hk) trivial
      · replace h := q_ifn (hc5) h
        replace h := q_be h
        obtain ⟨v6, hv, h⟩ := h
        replace hv := q_aI_e hv
        obtain ⟨_, _, cv6, iv6, yv6⟩ := hv
        refine ⟨⟨some _, rfl⟩, _, _, cv6, iv6, _, yv6, ?_⟩
        refine And.intro (fun hc7 => ?_) (fun hc7 => ?_)
        · replace h := q_ifp (hc7) h
          exact ps_weak (pjX2_areRight_28 h hk) trivial
        · replace h := q_ifn (hc7) h
          exact ps_weak (pjX2_areRight_24 h hk) trivial
noncomputable def bX2_readLengths_173 (x0 : Nat) (x1 : Int32) (x3 : Int32) (x5 : Int32) (x6 : Int32) (x2 : Int32) (x7 : Int32) (g : ps_G) : Option ((Int32 × Int32 × ps_G) ⊕ (Int32 × ps_G)) := if x5 ≤ x7 then (some (.inr (x2, g))) else (Option.bind (q_fI 2 3 g x0) fun v39 => if ¬ v39 = 0 then (some (.inr (x2, g))) else (Option.bind (q_fR 2 7 g x0) fun v42 => Option.bind (v42) fun a43 => Option.bind (q_wI g a43 x2 x6) fun g44 => some (.inl (x2 + (1 : Int32), x7 + (1 : Int32), g44))))
theorem pbX2_readLengths_173 {d : Nat} {Q : ps_Rs → ps_G → Prop}  {x0 : Nat} {x1 : Int32} {x3 : Int32} {x5 : Int32} {x6 : Int32} {x2 : Int32} {x7 : Int32} {g : ps_G} {x : (Int32 × Int32 × ps_G) ⊕ (Int32 × ps_G)} (h : bX2_readLengths_173 x0 x1 x3 x5 x6 x2 x7 g = some x) (hh : ∀ s' : Int32 × Int32 × ps_G, x = .inl s' → ps_At mX2_readLengths (d + 2) 173 [(0, .ref x0), (1, .int x1), (2, .int s'.1), (3, .int x3), (5, .int x5), (6, .int x6), (7, .int s'.2.1)] [] s'.2.2 Q) (he : ∀ r' : Int32 × ps_G, x = .inr r' → ps_At mX2_readLengths (d + 2) 204 [(0, .ref x0), (1, .int x1), (2, .int r'.1), (3, .int x3)] [] r'.2 Q) : ps_At mX2_readLengths (d + 2) 173 [(0, .ref x0), (1, .int x1), (2, .int x2), (3, .int x3), (5, .int x5), (6, .int x6), (7, .int x7)] [] g Q := by
  unfold bX2_readLengths_173 at h
  refine sX2_readLengths_173 ?_
  refine And.intro (fun hc37 => ?_) (fun hc37 => ?_)
  · replace h := q_ifp (hc37) h
    exact ps_weak (he (x2, g) (Option.some.inj h).symm) ⟨rfl, rfl, rfl, rfl, trivial⟩
  · replace h := q_ifn (hc37) h
    replace h := q_be h
    obtain ⟨v39, hv, h⟩ := h
    replace hv := q_fI_e hv
    obtain ⟨_, cv39, dv39⟩ := hv
    refine ⟨⟨some _, rfl⟩, _, _, cv39, dv39, ?_⟩
    refine And.intro (fun hc40 => ?_) (fun hc40 => ?_)
    · replace h := q_ifp (hc40) h
      exact ps_weak (he (x2, g) (Option.some.inj h).symm) ⟨rfl, rfl, rfl, rfl, trivial⟩
    · replace h := q_ifn (hc40) h
      replace h := q_be h
      obtain ⟨v42, hv, h⟩ := h
      replace hv := q_fR_e hv
      obtain ⟨_, cv42, dv42⟩ := hv
      replace h := q_be h
      obtain ⟨a43, ea43, h⟩ := h
      subst ea43
      replace h := q_be h
      obtain ⟨g44, hv, h⟩ := h
      replace hv := q_wI_e hv
      obtain ⟨_, _, cg44, pg44, ig44, yg44⟩ := hv
      refine ⟨⟨some _, rfl⟩, _, _, cv42, dv42, _, _, cg44, pg44, ig44, _, yg44, by decide, by decide, ?_⟩
      exact ps_weak (hh (x2 + (1 : Int32), x7 + (1 : Int32), g44) (Option.some.inj h).symm) ⟨rfl, rfl, rfl, rfl, rfl, rfl, rfl, trivial⟩
noncomputable def jX2_readLengths_204_4 (g : ps_G) (x0 : Nat) (x1 : Int32) (x2 : Int32) (x3 : Int32) : Option ((Int32 × Int32 × ps_G) ⊕ (ps_G)) := some (.inl (x2, x3 + (1 : Int32), g))
theorem pjX2_readLengths_204_4 {d : Nat} {Q : ps_Rs → ps_G → Prop} {g : ps_G} {x0 : Nat} {x1 : Int32} {x2 : Int32} {x3 : Int32} {x : (Int32 × Int32 × ps_G) ⊕ (ps_G)} (h : jX2_readLengths_204_4 g x0 x1 x2 x3 = some x) (hh : ∀ s' : Int32 × Int32 × ps_G, x = .inl s' → ps_At mX2_readLengths (d + 2) 4 [(0, .ref x0), (1, .int x1), (2, .int s'.1), (3, .int s'.2.1)] [] s'.2.2 Q) (he : ∀ r' : ps_G, x = .inr r' → ps_At mX2_readLengths (d + 2) 210 [] [] r' Q) : ps_At mX2_readLengths (d + 2) 204 [(0, .ref x0), (1, .int x1), (2, .int x2), (3, .int x3)] [] g Q := by
  unfold jX2_readLengths_204_4 at h
  refine sX2_readLengths_204 ?_
  refine ⟨by decide, ?_⟩
  exact ps_weak (hh (x2, x3 + (1 : Int32), g) (Option.some.inj h).symm) ⟨rfl, rfl, rfl, rfl, trivial⟩
noncomputable def jX2_readLengths_168_4 (g : ps_G) (x0 : Nat) (x1 : Int32) (x2 : Int32) (x3 : Int32) (x5 : Int32) (k0 : Int32) : Option ((Int32 × Int32 × ps_G) ⊕ (ps_G)) := Option.bind (q_lp (fun s => bX2_readLengths_173 x0 x1 x3 x5 k0 s.1 s.2.1 s.2.2) (x2, (0 : Int32), g)) fun s49 => jX2_readLengths_204_4 s49.2 x0 x1 s49.1 x3
theorem pjX2_readLengths_168_4 {d : Nat} {Q : ps_Rs → ps_G → Prop} {g : ps_G} {x0 : Nat} {x1 : Int32} {x2 : Int32} {x3 : Int32} {x5 : Int32} {k0 : Int32} {x : (Int32 × Int32 × ps_G) ⊕ (ps_G)} (h : jX2_readLengths_168_4 g x0 x1 x2 x3 x5 k0 = some x) (hh : ∀ s' : Int32 × Int32 × ps_G, x = .inl s' → ps_At mX2_readLengths (d + 2) 4 [(0, .ref x0), (1, .int x1), (2, .int s'.1), (3, .int s'.2.1)] [] s'.2.2 Q) (he : ∀ r' : ps_G, x = .inr r' → ps_At mX2_readLengths (d + 2) 210 [] [] r' Q) : ps_At mX2_readLengths (d + 2) 168 [(0, .ref x0), (1, .int x1), (2, .int x2), (3, .int x3), (5, .int x5)] [.int k0] g Q := by
  unfold jX2_readLengths_168_4 at h
  refine sX2_readLengths_168 ?_
  refine ⟨by decide, by decide, ?_⟩
  replace h := q_be h
  obtain ⟨s49, hl, h⟩ := h
  refine ps_weak (q_lp_ok hl (fun s => ps_At mX2_readLengths (d + 2) 173 [(0, .ref x0), (1, .int x1), (2, .int s.1), (3, .int x3), (5, .int x5), (6, .int k0), (7, .int s.2.1)] [] s.2.2 Q) (fun r => ps_At mX2_readLengths (d + 2) 204 [(0, .ref x0), (1, .int x1), (2, .int r.1), (3, .int x3)] [] r.2 Q) (fun s x hb hh he => pbX2_readLengths_173 hb hh he) ?_) ⟨rfl, rfl, rfl, rfl, rfl, rfl, rfl, trivial⟩
  refine (?_ : ps_At mX2_readLengths (d + 2) 204 [(0, .ref x0), (1, .int x1), (2, .int s49.1), (3, .int x3)] [] s49.2 Q)
  exact ps_weak (pjX2_readLengths_204_4 h hh he) ⟨rfl, rfl, rfl, rfl, trivial⟩
noncomputable def jX2_readLengths_129_4 (g : ps_G) (x0 : Nat) (x1 : Int32) (x2 : Int32) (x3 : Int32) (x4 : Int32) (x5 : Int32) (k0 : Nat) (k1 : Int32) (k2 : Int32) : Option ((Int32 × Int32 × ps_G) ⊕ (ps_G)) := Option.bind (q_sB 2 3 g k0 (k1 ||| k2)) fun g29 => if (16 : Int32) ≤ x4 then (if (¬ x4 = (16 : Int32)) ∨ (x2 ≤ 0) then (jX2_readLengths_168_4 g29 x0 x1 x2 x3 x5 (0 : Int32)) else (Option.bind (q_fR 2 7 g29 x0) fun v50 => Option.bind (v50) fun a51 => Option.bind (q_aI g29 a51 (x2 - (1 : Int32))) fun v52 => jX2_readLengths_168_4 g29 x0 x1 x2 x3 x5 v52)) else (jX2_readLengths_168_4 g29 x0 x1 x2 x3 x5 x4)
theorem pjX2_readLengths_129_4 {d : Nat} {Q : ps_Rs → ps_G → Prop} {g : ps_G} {x0 : Nat} {x1 : Int32} {x2 : Int32} {x3 : Int32} {x4 : Int32} {x5 : Int32} {k0 : Nat} {k1 : Int32} {k2 : Int32} {x : (Int32 × Int32 × ps_G) ⊕ (ps_G)} (h : jX2_readLengths_129_4 g x0 x1 x2 x3 x4 x5 k0 k1 k2 = some x) (hh : ∀ s' : Int32 × Int32 × ps_G, x = .inl s' → ps_At mX2_readLengths (d + 2) 4 [(0, .ref x0), (1, .int x1), (2, .int s'.1), (3, .int s'.2.1)] [] s'.2.2 Q) (he : ∀ r' : ps_G, x = .inr r' → ps_At mX2_readLengths (d + 2) 210 [] [] r' Q) : ps_At mX2_readLengths (d + 2) 129 [(0, .ref x0), (1, .int x1), (2, .int x2), (3, .int x3), (4, .int x4), (5, .int x5)] [.int k2, .int k1, .ref k0] g Q := by
  unfold jX2_readLengths_129_4 at h
  refine sX2_readLengths_129 ?_
  replace h := q_be h
  obtain ⟨g29, hv, h⟩ := h
  replace hv := q_sB_e hv
  obtain ⟨_, cg29, dg29, ng29, yg29⟩ := hv
  refine ⟨_, cg29, dg29, ng29.1, ng29.2, _, yg29, ?_⟩
  refine And.intro (fun hc30 => ?_) (fun hc30 => ?_)
  · replace h := q_ifp (hc30) h
    refine sX2_readLengths_145 ?_
    have kT53 : (jX2_readLengths_168_4 g29 x0 x1 x2 x3 x5 (0 : Int32)) = some x → ps_At mX2_readLengths (d + 2) 167 [(0, .ref x0), (1, .int x1), (2, .int x2), (3, .int x3), (5, .int x5)] [] g29 Q := fun h => by
      refine sX2_readLengths_167 ?_
      exact ps_weak (pjX2_readLengths_168_4 h hh he) ⟨rfl, rfl, rfl, rfl, rfl, trivial⟩
    refine And.intro (fun hc34 => ?_) (fun hc34 => ?_)
    · exact ps_weak (kT53 (q_ifp (Or.inl hc34) h)) ⟨rfl, rfl, rfl, rfl, rfl, trivial⟩
    · refine And.intro (fun hc35 => ?_) (fun hc35 => ?_)
      · exact ps_weak (kT53 (q_ifp (Or.inr (hc35)) h)) ⟨rfl, rfl, rfl, rfl, rfl, trivial⟩
      · replace h := q_ifn (not_or.mpr ⟨hc34, hc35⟩) h
        replace h := q_be h
        obtain ⟨v50, hv, h⟩ := h
        replace hv := q_fR_e hv
        obtain ⟨_, cv50, dv50⟩ := hv
        replace h := q_be h
        obtain ⟨a51, ea51, h⟩ := h
        subst ea51
        replace h := q_be h
        obtain ⟨v52, hv, h⟩ := h
        replace hv := q_aI_e hv
        obtain ⟨_, _, cv52, iv52, yv52⟩ := hv
        refine ⟨⟨some _, rfl⟩, _, _, cv50, dv50, _, _, cv52, iv52, _, yv52, ?_⟩
        exact ps_weak (pjX2_readLengths_168_4 h hh he) ⟨rfl, rfl, rfl, rfl, rfl, trivial⟩
  · replace h := q_ifn (hc30) h
    exact ps_weak (pjX2_readLengths_168_4 h hh he) ⟨rfl, rfl, rfl, rfl, rfl, trivial⟩
noncomputable def jX2_readLengths_124_4 (g : ps_G) (x0 : Nat) (x1 : Int32) (x2 : Int32) (x3 : Int32) (x4 : Int32) (x5 : Int32) (k0 : Nat) (k1 : Int32) : Option ((Int32 × Int32 × ps_G) ⊕ (ps_G)) := jX2_readLengths_129_4 g x0 x1 x2 x3 x4 x5 k0 k1 (1 : Int32)
theorem pjX2_readLengths_124_4 {d : Nat} {Q : ps_Rs → ps_G → Prop} {g : ps_G} {x0 : Nat} {x1 : Int32} {x2 : Int32} {x3 : Int32} {x4 : Int32} {x5 : Int32} {k0 : Nat} {k1 : Int32} {x : (Int32 × Int32 × ps_G) ⊕ (ps_G)} (h : jX2_readLengths_124_4 g x0 x1 x2 x3 x4 x5 k0 k1 = some x) (hh : ∀ s' : Int32 × Int32 × ps_G, x = .inl s' → ps_At mX2_readLengths (d + 2) 4 [(0, .ref x0), (1, .int x1), (2, .int s'.1), (3, .int s'.2.1)] [] s'.2.2 Q) (he : ∀ r' : ps_G, x = .inr r' → ps_At mX2_readLengths (d + 2) 210 [] [] r' Q) : ps_At mX2_readLengths (d + 2) 124 [(0, .ref x0), (1, .int x1), (2, .int x2), (3, .int x3), (4, .int x4), (5, .int x5)] [.int k1, .ref k0] g Q := by
  unfold jX2_readLengths_124_4 at h
  refine sX2_readLengths_124 ?_
  exact ps_weak (pjX2_readLengths_129_4 h hh he) ⟨rfl, rfl, rfl, rfl, rfl, rfl, trivial⟩
noncomputable def jX2_readLengths_89_4 (g : ps_G) (x0 : Nat) (x1 : Int32) (x2 : Int32) (x3 : Int32) (x4 : Int32) (k0 : Int32) : Option ((Int32 × Int32 × ps_G) ⊕ (ps_G)) := Option.bind (q_fI 2 3 g x0) fun v26 => if ¬ (¬ x4 = (16 : Int32)) ∧ (x2 = 0) then (jX2_readLengths_124_4 g x0 x1 x2 x3 x4 k0 x0 v26) else (if x1 < (x2 + k0) then (jX2_readLengths_124_4 g x0 x1 x2 x3 x4 k0 x0 v26) else (Option.bind (q_fR 2 7 g x0) fun v58 => Option.bind (v58) fun a59 => Option.bind (q_len g a59) fun v60 => if x1 ≤ v60 then (jX2_readLengths_129_4 g x0 x1 x2 x3 x4 k0 x0 v26 (0 : Int32)) else (jX2_readLengths_124_4 g x0 x1 x2 x3 x4 k0 x0 v26)))
theorem pjX2_readLengths_89_4 {d : Nat} {Q : ps_Rs → ps_G → Prop} {g : ps_G} {x0 : Nat} {x1 : Int32} {x2 : Int32} {x3 : Int32} {x4 : Int32} {k0 : Int32} {x : (Int32 × Int32 × ps_G) ⊕ (ps_G)} (h : jX2_readLengths_89_4 g x0 x1 x2 x3 x4 k0 = some x) (hh : ∀ s' : Int32 × Int32 × ps_G, x = .inl s' → ps_At mX2_readLengths (d + 2) 4 [(0, .ref x0), (1, .int x1), (2, .int s'.1), (3, .int s'.2.1)] [] s'.2.2 Q) (he : ∀ r' : ps_G, x = .inr r' → ps_At mX2_readLengths (d + 2) 210 [] [] r' Q) : ps_At mX2_readLengths (d + 2) 89 [(0, .ref x0), (1, .int x1), (2, .int x2), (3, .int x3), (4, .int x4)] [.int k0] g Q := by
  unfold jX2_readLengths_89_4 at h
  refine sX2_readLengths_89 ?_
  replace h := q_be h
  obtain ⟨v26, hv, h⟩ := h
  replace hv := q_fI_e hv
  obtain ⟨_, cv26, dv26⟩ := hv
  have kF67 : (if x1 < (x2 + k0) then (jX2_readLengths_124_4 g x0 x1 x2 x3 x4 k0 x0 v26) else (Option.bind (q_fR 2 7 g x0) fun v58 => Option.bind (v58) fun a59 => Option.bind (q_len g a59) fun v60 => if x1 ≤ v60 then (jX2_readLengths_129_4 g x0 x1 x2 x3 x4 k0 x0 v26 (0 : Int32)) else (jX2_readLengths_124_4 g x0 x1 x2 x3 x4 k0 x0 v26))) = some x → ps_At mX2_readLengths (d + 2) 107 [(0, .ref x0), (1, .int x1), (2, .int x2), (3, .int x3), (4, .int x4), (5, .int k0)] [.int v26, .ref x0] g Q := fun h => by
    refine sX2_readLengths_107 ?_
    refine And.intro (fun hc57 => ?_) (fun hc57 => ?_)
    · replace h := q_ifp (hc57) h
      exact ps_weak (pjX2_readLengths_124_4 h hh he) ⟨rfl, rfl, rfl, rfl, rfl, rfl, trivial⟩
    · replace h := q_ifn (hc57) h
      replace h := q_be h
      obtain ⟨v58, hv, h⟩ := h
      replace hv := q_fR_e hv
      obtain ⟨_, cv58, dv58⟩ := hv
      replace h := q_be h
      obtain ⟨a59, ea59, h⟩ := h
      subst ea59
      replace h := q_be h
      obtain ⟨v60, hv, h⟩ := h
      replace hv := q_len_e hv
      obtain ⟨_, _, cv60, qv60, yv60⟩ := hv
      refine ⟨⟨some _, rfl⟩, _, _, cv58, dv58, _, _, cv60, qv60, _, yv60, ?_⟩
      refine And.intro (fun hc61 => ?_) (fun hc61 => ?_)
      · replace h := q_ifp (hc61) h
        refine sX2_readLengths_128 ?_
        exact ps_weak (pjX2_readLengths_129_4 h hh he) ⟨rfl, rfl, rfl, rfl, rfl, rfl, trivial⟩
      · replace h := q_ifn (hc61) h
        exact ps_weak (pjX2_readLengths_124_4 h hh he) ⟨rfl, rfl, rfl, rfl, rfl, rfl, trivial⟩
  refine ⟨by decide, ⟨some _, rfl⟩, rfl, _, _, cv26, dv26, ?_⟩
  refine And.intro (fun hc27 => ?_) (fun hc27 => ?_)
  · exact ps_weak (kF67 (q_ifn (fun z => z.1 hc27) h)) ⟨rfl, rfl, rfl, rfl, rfl, rfl, trivial⟩
  · refine And.intro (fun hc28 => ?_) (fun hc28 => ?_)
    · replace h := q_ifp (⟨hc27, hc28⟩) h
      exact ps_weak (pjX2_readLengths_124_4 h hh he) ⟨rfl, rfl, rfl, rfl, rfl, rfl, trivial⟩
    · exact ps_weak (kF67 (q_ifn (fun z => hc28 z.2) h)) ⟨rfl, rfl, rfl, rfl, rfl, rfl, trivial⟩
noncomputable def bX2_readLengths_4 (x0 : Nat) (x1 : Int32) (x2 : Int32) (x3 : Int32) (g : ps_G) : Option ((Int32 × Int32 × ps_G) ⊕ (ps_G)) := if (x1 ≤ x3) ∨ (x1 ≤ x2) then (some (.inr g)) else (Option.bind (q_fI 2 3 g x0) fun v4 => if ¬ v4 = 0 then (some (.inr g)) else (Option.bind (q_fR 2 8 g x0) fun v7 => Option.bind (v7) fun a8 => Option.bind (q_fR 2 9 g x0) fun v9 => Option.bind (v9) fun a10 => Option.bind (q_ob 2 g x0) fun u11 => q_b2 (fX2_decode g x0 a8 a10) fun v12 g13 => if (16 : Int32) ≤ v12 then (if ¬ v12 = (16 : Int32) then (if ¬ v12 = (17 : Int32) then (Option.bind (q_ob 2 g13 x0) fun u23 => q_b2 (fX2_readBits g13 x0 (7 : Int32)) fun v24 g25 => jX2_readLengths_89_4 g25 x0 x1 x2 x3 v12 ((11 : Int32) + v24)) else (Option.bind (q_ob 2 g13 x0) fun u68 => q_b2 (fX2_readBits g13 x0 (3 : Int32)) fun v69 g70 => jX2_readLengths_89_4 g70 x0 x1 x2 x3 v12 ((3 : Int32) + v69))) else (Option.bind (q_ob 2 g13 x0) fun u73 => q_b2 (fX2_readBits g13 x0 (2 : Int32)) fun v74 g75 => jX2_readLengths_89_4 g75 x0 x1 x2 x3 v12 ((3 : Int32) + v74))) else (jX2_readLengths_89_4 g13 x0 x1 x2 x3 v12 (1 : Int32))))
theorem pbX2_readLengths_4 {d : Nat} {Q : ps_Rs → ps_G → Prop}  {x0 : Nat} {x1 : Int32} {x2 : Int32} {x3 : Int32} {g : ps_G} {x : (Int32 × Int32 × ps_G) ⊕ (ps_G)} (h : bX2_readLengths_4 x0 x1 x2 x3 g = some x) (hh : ∀ s' : Int32 × Int32 × ps_G, x = .inl s' → ps_At mX2_readLengths (d + 2) 4 [(0, .ref x0), (1, .int x1), (2, .int s'.1), (3, .int s'.2.1)] [] s'.2.2 Q) (he : ∀ r' : ps_G, x = .inr r' → ps_At mX2_readLengths (d + 2) 210 [] [] r' Q) : ps_At mX2_readLengths (d + 2) 4 [(0, .ref x0), (1, .int x1), (2, .int x2), (3, .int x3)] [] g Q := by
  unfold bX2_readLengths_4 at h
  refine sX2_readLengths_4 ?_
  have kT82 : (some (.inr g)) = some x → ps_At mX2_readLengths (d + 2) 210 [] [] g Q := fun h => by
    exact ps_weak (he g (Option.some.inj h).symm) trivial
  refine And.intro (fun hc1 => ?_) (fun hc1 => ?_)
  · exact ps_weak (kT82 (q_ifp (Or.inl hc1) h)) trivial
  · refine And.intro (fun hc2 => ?_) (fun hc2 => ?_)
    · exact ps_weak (kT82 (q_ifp (Or.inr (hc2)) h)) trivial
    · replace h := q_ifn (not_or.mpr ⟨hc1, hc2⟩) h
      replace h := q_be h
      obtain ⟨v4, hv, h⟩ := h
      replace hv := q_fI_e hv
      obtain ⟨_, cv4, dv4⟩ := hv
      refine ⟨⟨some _, rfl⟩, _, _, cv4, dv4, ?_⟩
      refine And.intro (fun hc5 => ?_) (fun hc5 => ?_)
      · replace h := q_ifp (hc5) h
        exact ps_weak (he g (Option.some.inj h).symm) trivial
      · replace h := q_ifn (hc5) h
        replace h := q_be h
        obtain ⟨v7, hv, h⟩ := h
        replace hv := q_fR_e hv
        obtain ⟨_, cv7, dv7⟩ := hv
        replace h := q_be h
        obtain ⟨a8, ea8, h⟩ := h
        subst ea8
        replace h := q_be h
        obtain ⟨v9, hv, h⟩ := h
        replace hv := q_fR_e hv
        obtain ⟨_, cv9, dv9⟩ := hv
        replace h := q_be h
        obtain ⟨a10, ea10, h⟩ := h
        subst ea10
        replace h := q_be h
        obtain ⟨u11, hv, h⟩ := h
        replace hv := q_ob_e hv
        obtain ⟨_, cu11⟩ := hv
        replace h := q_b2_e h
        obtain ⟨v12, g13, hv, h⟩ := h
        refine ⟨⟨some _, rfl⟩, ⟨some _, rfl⟩, _, _, cv7, dv7, ⟨some _, rfl⟩, _, _, cv9, dv9, ⟨_, cu11⟩, ?_⟩
        refine rX2_decode hv ?_
        refine ⟨by decide, ?_⟩
        refine And.intro (fun hc14 => ?_) (fun hc14 => ?_)
        · replace h := q_ifp (hc14) h
          refine sX2_readLengths_46 ?_
          refine And.intro (fun hc18 => ?_) (fun hc18 => ?_)
          · replace h := q_ifp (hc18) h
            refine sX2_readLengths_63 ?_
            refine And.intro (fun hc21 => ?_) (fun hc21 => ?_)
            · replace h := q_ifp (hc21) h
              refine sX2_readLengths_80 ?_
              replace h := q_be h
              obtain ⟨u23, hv, h⟩ := h
              replace hv := q_ob_e hv
              obtain ⟨_, cu23⟩ := hv
              replace h := q_b2_e h
              obtain ⟨v24, g25, hv, h⟩ := h
              refine ⟨⟨some _, rfl⟩, ⟨_, cu23⟩, ?_⟩
              refine rX2_readBits hv ?_
              exact ps_weak (pjX2_readLengths_89_4 h hh he) ⟨rfl, rfl, rfl, rfl, rfl, trivial⟩
            · replace h := q_ifn (hc21) h
              replace h := q_be h
              obtain ⟨u68, hv, h⟩ := h
              replace hv := q_ob_e hv
              obtain ⟨_, cu68⟩ := hv
              replace h := q_b2_e h
              obtain ⟨v69, g70, hv, h⟩ := h
              refine ⟨⟨some _, rfl⟩, ⟨_, cu68⟩, ?_⟩
              refine rX2_readBits hv ?_
              exact ps_weak (pjX2_readLengths_89_4 h hh he) ⟨rfl, rfl, rfl, rfl, rfl, trivial⟩
          · replace h := q_ifn (hc18) h
            replace h := q_be h
            obtain ⟨u73, hv, h⟩ := h
            replace hv := q_ob_e hv
            obtain ⟨_, cu73⟩ := hv
            replace h := q_b2_e h
            obtain ⟨v74, g75, hv, h⟩ := h
            refine ⟨⟨some _, rfl⟩, ⟨_, cu73⟩, ?_⟩
            refine rX2_readBits hv ?_
            exact ps_weak (pjX2_readLengths_89_4 h hh he) ⟨rfl, rfl, rfl, rfl, rfl, trivial⟩
        · replace h := q_ifn (hc14) h
          exact ps_weak (pjX2_readLengths_89_4 h hh he) ⟨rfl, rfl, rfl, rfl, rfl, trivial⟩
noncomputable def jX2_readLengths_210 (g : ps_G) : Option (ps_G) := some g
theorem pjX2_readLengths_210 {d : Nat} {Q : ps_Rs → ps_G → Prop} {g : ps_G}  {r : ps_G} (h : jX2_readLengths_210 g = some r) (hk : Q (.inl none) r) : ps_At mX2_readLengths (d + 2) 210 [] [] g Q := by
  unfold jX2_readLengths_210 at h
  refine sX2_readLengths_210 ?_
  cases h
  exact ⟨rfl, rfl, hk⟩
noncomputable def fX2_readLengths (g : ps_G) (x0 : Nat) (x1 : Int32) : Option (ps_G) := Option.bind (q_lp (fun s => bX2_readLengths_4 x0 x1 s.1 s.2.1 s.2.2) ((0 : Int32), (0 : Int32), g)) fun s84 => jX2_readLengths_210 s84
theorem rX2_readLengths {d : Nat} {Q : ps_Rs → ps_G → Prop} {g : ps_G} {x0 : Nat} {x1 : Int32} {r : ps_G} (h : fX2_readLengths g x0 x1 = some r) (hk : Q (.inl none) r) : ps_Ok mX2_readLengths (d + 2) [.ref x0, .int x1] g Q := by
  unfold fX2_readLengths at h
  refine sX2_readLengths_0 ?_
  refine ⟨by decide, by decide, ?_⟩
  replace h := q_be h
  obtain ⟨s84, hl, h⟩ := h
  refine ps_weak (q_lp_ok hl (fun s => ps_At mX2_readLengths (d + 2) 4 [(0, .ref x0), (1, .int x1), (2, .int s.1), (3, .int s.2.1)] [] s.2.2 Q) (fun r => ps_At mX2_readLengths (d + 2) 210 [] [] r Q) (fun s x hb hh he => pbX2_readLengths_4 hb hh he) ?_) ⟨rfl, rfl, rfl, rfl, trivial⟩
  refine (?_ : ps_At mX2_readLengths (d + 2) 210 [] [] s84 Q)
  exact ps_weak (pjX2_readLengths_210 h hk) trivial
noncomputable def bX2_toldCodes_64 (x0 : Nat) (x1 : Int32) (x2 : Int32) (x3 : Int32) (x4 : Int32) (g : ps_G) : Option ((Int32 × ps_G) ⊕ (ps_G)) := if x3 ≤ x4 then (some (.inr g)) else (Option.bind (q_len g 6) fun v21 => if v21 ≤ x4 then (some (.inr g)) else (Option.bind (q_fI 2 3 g x0) fun v24 => if ¬ v24 = 0 then (some (.inr g)) else (Option.bind (q_fR 2 7 g x0) fun v27 => Option.bind (v27) fun a28 => Option.bind (q_aI g 6 x4) fun v29 => Option.bind (q_ob 2 g x0) fun u30 => q_b2 (fX2_readBits g x0 (3 : Int32)) fun v31 g32 => Option.bind (q_wI g32 a28 v29 v31) fun g33 => some (.inl (x4 + (1 : Int32), g33)))))
theorem pbX2_toldCodes_64 {d : Nat} {Q : ps_Rs → ps_G → Prop}  {x0 : Nat} {x1 : Int32} {x2 : Int32} {x3 : Int32} {x4 : Int32} {g : ps_G} {x : (Int32 × ps_G) ⊕ (ps_G)} (h : bX2_toldCodes_64 x0 x1 x2 x3 x4 g = some x) (hh : ∀ s' : Int32 × ps_G, x = .inl s' → ps_At mX2_toldCodes (d + 3) 64 [(0, .ref x0), (1, .int x1), (2, .int x2), (3, .int x3), (4, .int s'.1)] [] s'.2 Q) (he : ∀ r' : ps_G, x = .inr r' → ps_At mX2_toldCodes (d + 3) 108 [(0, .ref x0), (1, .int x1), (2, .int x2)] [] r' Q) : ps_At mX2_toldCodes (d + 3) 64 [(0, .ref x0), (1, .int x1), (2, .int x2), (3, .int x3), (4, .int x4)] [] g Q := by
  unfold bX2_toldCodes_64 at h
  refine sX2_toldCodes_64 ?_
  refine And.intro (fun hc19 => ?_) (fun hc19 => ?_)
  · replace h := q_ifp (hc19) h
    exact ps_weak (he g (Option.some.inj h).symm) ⟨rfl, rfl, rfl, trivial⟩
  · replace h := q_ifn (hc19) h
    replace h := q_be h
    obtain ⟨v21, hv, h⟩ := h
    replace hv := q_len_e hv
    obtain ⟨_, _, cv21, qv21, yv21⟩ := hv
    refine ⟨_, _, cv21, qv21, _, yv21, ?_⟩
    refine And.intro (fun hc22 => ?_) (fun hc22 => ?_)
    · replace h := q_ifp (hc22) h
      exact ps_weak (he g (Option.some.inj h).symm) ⟨rfl, rfl, rfl, trivial⟩
    · replace h := q_ifn (hc22) h
      replace h := q_be h
      obtain ⟨v24, hv, h⟩ := h
      replace hv := q_fI_e hv
      obtain ⟨_, cv24, dv24⟩ := hv
      refine ⟨⟨some _, rfl⟩, _, _, cv24, dv24, ?_⟩
      refine And.intro (fun hc25 => ?_) (fun hc25 => ?_)
      · replace h := q_ifp (hc25) h
        exact ps_weak (he g (Option.some.inj h).symm) ⟨rfl, rfl, rfl, trivial⟩
      · replace h := q_ifn (hc25) h
        replace h := q_be h
        obtain ⟨v27, hv, h⟩ := h
        replace hv := q_fR_e hv
        obtain ⟨_, cv27, dv27⟩ := hv
        replace h := q_be h
        obtain ⟨a28, ea28, h⟩ := h
        subst ea28
        replace h := q_be h
        obtain ⟨v29, hv, h⟩ := h
        replace hv := q_aI_e hv
        obtain ⟨_, _, cv29, iv29, yv29⟩ := hv
        replace h := q_be h
        obtain ⟨u30, hv, h⟩ := h
        replace hv := q_ob_e hv
        obtain ⟨_, cu30⟩ := hv
        replace h := q_b2_e h
        obtain ⟨v31, g32, hv, h⟩ := h
        refine ⟨⟨some _, rfl⟩, _, _, cv27, dv27, _, _, cv29, iv29, _, yv29, ⟨some _, rfl⟩, ⟨_, cu30⟩, ?_⟩
        refine rX2_readBits hv ?_
        replace h := q_be h
        obtain ⟨g33, hv, h⟩ := h
        replace hv := q_wI_e hv
        obtain ⟨_, _, cg33, pg33, ig33, yg33⟩ := hv
        refine ⟨_, _, cg33, pg33, ig33, _, yg33, by decide, ?_⟩
        exact ps_weak (hh (x4 + (1 : Int32), g33) (Option.some.inj h).symm) ⟨rfl, rfl, rfl, rfl, rfl, trivial⟩
noncomputable def jX2_toldCodes_284 (g : ps_G) (k0 : Nat) (k1 : Int32) (k2 : Int32) : Option (ps_G) := Option.bind (q_sB 2 3 g k0 (k1 ||| k2)) fun g96 => some g96
theorem pjX2_toldCodes_284 {d : Nat} {Q : ps_Rs → ps_G → Prop} {g : ps_G} {k0 : Nat} {k1 : Int32} {k2 : Int32} {r : ps_G} (h : jX2_toldCodes_284 g k0 k1 k2 = some r) (hk : Q (.inl none) r) : ps_At mX2_toldCodes (d + 3) 284 [] [.int k2, .int k1, .ref k0] g Q := by
  unfold jX2_toldCodes_284 at h
  refine sX2_toldCodes_284 ?_
  replace h := q_be h
  obtain ⟨g96, hv, h⟩ := h
  replace hv := q_sB_e hv
  obtain ⟨_, cg96, dg96, ng96, yg96⟩ := hv
  cases h
  exact ⟨_, cg96, dg96, ng96.1, ng96.2, _, yg96, rfl, rfl, hk⟩
noncomputable def jX2_toldCodes_283 (g : ps_G) (k0 : Nat) (k1 : Int32) : Option (ps_G) := jX2_toldCodes_284 g k0 k1 (0 : Int32)
theorem pjX2_toldCodes_283 {d : Nat} {Q : ps_Rs → ps_G → Prop} {g : ps_G} {k0 : Nat} {k1 : Int32} {r : ps_G} (h : jX2_toldCodes_283 g k0 k1 = some r) (hk : Q (.inl none) r) : ps_At mX2_toldCodes (d + 3) 283 [] [.int k1, .ref k0] g Q := by
  unfold jX2_toldCodes_283 at h
  refine sX2_toldCodes_283 ?_
  exact ps_weak (pjX2_toldCodes_284 h hk) trivial
noncomputable def jX2_toldCodes_108 (g : ps_G) (x0 : Nat) (x1 : Int32) (x2 : Int32) : Option (ps_G) := Option.bind (q_fR 2 8 g x0) fun v41 => Option.bind (v41) fun a42 => Option.bind (q_fR 2 9 g x0) fun v43 => Option.bind (v43) fun a44 => Option.bind (q_len g 6) fun v45 => Option.bind (q_ob 2 g x0) fun u46 => q_b2 (fX2_order g x0 a42 a44 (0 : Int32) v45) fun v47 g48 => Option.bind (q_fI 2 3 g48 x0) fun v49 => Option.bind (q_fR 2 8 g48 x0) fun v50 => Option.bind (v50) fun a51 => Option.bind (q_len g48 6) fun v52 => Option.bind (fX2_areRight g48 v47 a51 v52) fun v53 => Option.bind (q_sB 2 3 g48 x0 (v49 ||| (if ¬ v53 = 0 then (0 : Int32) else (1 : Int32)))) fun g57 => Option.bind (q_ob 2 g57 x0) fun u58 => Option.bind (fX2_readLengths g57 x0 (x1 + x2)) fun v59 => Option.bind (q_fI 2 3 v59 x0) fun v60 => if v60 = 0 then (Option.bind (q_fR 2 7 v59 x0) fun v62 => Option.bind (v62) fun a63 => Option.bind (q_aI v59 a63 (256 : Int32)) fun v64 => Option.bind (q_sB 2 3 v59 x0 (if ¬ v64 = 0 then (0 : Int32) else (1 : Int32))) fun g68 => Option.bind (q_fR 2 8 g68 x0) fun v69 => Option.bind (v69) fun a70 => Option.bind (q_fR 2 9 g68 x0) fun v71 => Option.bind (v71) fun a72 => Option.bind (q_ob 2 g68 x0) fun u73 => q_b2 (fX2_order g68 x0 a70 a72 (0 : Int32) x1) fun v74 g75 => Option.bind (q_fI 2 3 g75 x0) fun v76 => Option.bind (q_fR 2 8 g75 x0) fun v77 => Option.bind (v77) fun a78 => Option.bind (fX2_areRight g75 v74 a78 x1) fun v79 => Option.bind (q_sB 2 3 g75 x0 (v76 ||| (if ¬ v79 = 0 then (0 : Int32) else (1 : Int32)))) fun g83 => Option.bind (q_fR 2 10 g83 x0) fun v84 => Option.bind (v84) fun a85 => Option.bind (q_fR 2 11 g83 x0) fun v86 => Option.bind (v86) fun a87 => Option.bind (q_ob 2 g83 x0) fun u88 => q_b2 (fX2_order g83 x0 a85 a87 x1 x2) fun v89 g90 => Option.bind (q_fI 2 3 g90 x0) fun v91 => Option.bind (q_fR 2 10 g90 x0) fun v92 => Option.bind (v92) fun a93 => Option.bind (fX2_areRight g90 v89 a93 x2) fun v94 => if ¬ v94 = 0 then (jX2_toldCodes_283 g90 x0 v91) else (Option.bind (q_fR 2 10 g90 x0) fun v97 => Option.bind (v97) fun a98 => Option.bind (q_aI g90 a98 (0 : Int32)) fun v99 => if v99 = x2 then (jX2_toldCodes_283 g90 x0 v91) else (jX2_toldCodes_284 g90 x0 v91 (1 : Int32)))) else (some v59)
theorem pjX2_toldCodes_108 {d : Nat} {Q : ps_Rs → ps_G → Prop} {g : ps_G} {x0 : Nat} {x1 : Int32} {x2 : Int32} {r : ps_G} (h : jX2_toldCodes_108 g x0 x1 x2 = some r) (hk : Q (.inl none) r) : ps_At mX2_toldCodes (d + 3) 108 [(0, .ref x0), (1, .int x1), (2, .int x2)] [] g Q := by
  unfold jX2_toldCodes_108 at h
  refine sX2_toldCodes_108 ?_
  replace h := q_be h
  obtain ⟨v41, hv, h⟩ := h
  replace hv := q_fR_e hv
  obtain ⟨_, cv41, dv41⟩ := hv
  replace h := q_be h
  obtain ⟨a42, ea42, h⟩ := h
  subst ea42
  replace h := q_be h
  obtain ⟨v43, hv, h⟩ := h
  replace hv := q_fR_e hv
  obtain ⟨_, cv43, dv43⟩ := hv
  replace h := q_be h
  obtain ⟨a44, ea44, h⟩ := h
  subst ea44
  replace h := q_be h
  obtain ⟨v45, hv, h⟩ := h
  replace hv := q_len_e hv
  obtain ⟨_, _, cv45, qv45, yv45⟩ := hv
  replace h := q_be h
  obtain ⟨u46, hv, h⟩ := h
  replace hv := q_ob_e hv
  obtain ⟨_, cu46⟩ := hv
  replace h := q_b2_e h
  obtain ⟨v47, g48, hv, h⟩ := h
  refine ⟨⟨some _, rfl⟩, ⟨some _, rfl⟩, _, _, cv41, dv41, ⟨some _, rfl⟩, _, _, cv43, dv43, _, _, cv45, qv45, _, yv45, ⟨_, cu46⟩, ?_⟩
  refine rX2_order hv ?_
  replace h := q_be h
  obtain ⟨v49, hv, h⟩ := h
  replace hv := q_fI_e hv
  obtain ⟨_, cv49, dv49⟩ := hv
  replace h := q_be h
  obtain ⟨v50, hv, h⟩ := h
  replace hv := q_fR_e hv
  obtain ⟨_, cv50, dv50⟩ := hv
  replace h := q_be h
  obtain ⟨a51, ea51, h⟩ := h
  subst ea51
  replace h := q_be h
  obtain ⟨v52, hv, h⟩ := h
  replace hv := q_len_e hv
  obtain ⟨_, _, cv52, qv52, yv52⟩ := hv
  replace h := q_be h
  obtain ⟨v53, hv, h⟩ := h
  refine ⟨by decide, ⟨some _, rfl⟩, rfl, _, _, cv49, dv49, ⟨some _, rfl⟩, _, _, cv50, dv50, _, _, cv52, qv52, _, yv52, ?_⟩
  refine rX2_areRight hv ?_
  have kJ56 : ∀ w55 : Int32, w55 = (if ¬ v53 = 0 then (0 : Int32) else (1 : Int32)) → ps_At mX2_toldCodes (d + 3) 153 [(0, .ref x0), (1, .int x1), (2, .int x2)] [.int w55, .int v49, .ref x0] g48 Q := by
    rintro _ rfl
    refine sX2_toldCodes_153 ?_
    replace h := q_be h
    obtain ⟨g57, hv, h⟩ := h
    replace hv := q_sB_e hv
    obtain ⟨_, cg57, dg57, ng57, yg57⟩ := hv
    replace h := q_be h
    obtain ⟨u58, hv, h⟩ := h
    replace hv := q_ob_e hv
    obtain ⟨_, cu58⟩ := hv
    replace h := q_be h
    obtain ⟨v59, hv, h⟩ := h
    refine ⟨_, cg57, dg57, ng57.1, ng57.2, _, yg57, ⟨some _, rfl⟩, ⟨_, cu58⟩, ?_⟩
    refine rX2_readLengths hv ?_
    replace h := q_be h
    obtain ⟨v60, hv, h⟩ := h
    replace hv := q_fI_e hv
    obtain ⟨_, cv60, dv60⟩ := hv
    refine ⟨⟨some _, rfl⟩, _, _, cv60, dv60, ?_⟩
    refine And.intro (fun hc61 => ?_) (fun hc61 => ?_)
    · replace h := q_ifp (hc61) h
      refine sX2_toldCodes_172 ?_
      replace h := q_be h
      obtain ⟨v62, hv, h⟩ := h
      replace hv := q_fR_e hv
      obtain ⟨_, cv62, dv62⟩ := hv
      replace h := q_be h
      obtain ⟨a63, ea63, h⟩ := h
      subst ea63
      replace h := q_be h
      obtain ⟨v64, hv, h⟩ := h
      replace hv := q_aI_e hv
      obtain ⟨_, _, cv64, iv64, yv64⟩ := hv
      have kJ67 : ∀ w66 : Int32, w66 = (if ¬ v64 = 0 then (0 : Int32) else (1 : Int32)) → ps_At mX2_toldCodes (d + 3) 189 [(0, .ref x0), (1, .int x1), (2, .int x2)] [.int w66, .ref x0] v59 Q := by
        rintro _ rfl
        refine sX2_toldCodes_189 ?_
        replace h := q_be h
        obtain ⟨g68, hv, h⟩ := h
        replace hv := q_sB_e hv
        obtain ⟨_, cg68, dg68, ng68, yg68⟩ := hv
        replace h := q_be h
        obtain ⟨v69, hv, h⟩ := h
        replace hv := q_fR_e hv
        obtain ⟨_, cv69, dv69⟩ := hv
        replace h := q_be h
        obtain ⟨a70, ea70, h⟩ := h
        subst ea70
        replace h := q_be h
        obtain ⟨v71, hv, h⟩ := h
        replace hv := q_fR_e hv
        obtain ⟨_, cv71, dv71⟩ := hv
        replace h := q_be h
        obtain ⟨a72, ea72, h⟩ := h
        subst ea72
        replace h := q_be h
        obtain ⟨u73, hv, h⟩ := h
        replace hv := q_ob_e hv
        obtain ⟨_, cu73⟩ := hv
        replace h := q_b2_e h
        obtain ⟨v74, g75, hv, h⟩ := h
        refine ⟨_, cg68, dg68, ng68.1, ng68.2, _, yg68, ⟨some _, rfl⟩, ⟨some _, rfl⟩, _, _, cv69, dv69, ⟨some _, rfl⟩, _, _, cv71, dv71, ⟨_, cu73⟩, ?_⟩
        refine rX2_order hv ?_
        replace h := q_be h
        obtain ⟨v76, hv, h⟩ := h
        replace hv := q_fI_e hv
        obtain ⟨_, cv76, dv76⟩ := hv
        replace h := q_be h
        obtain ⟨v77, hv, h⟩ := h
        replace hv := q_fR_e hv
        obtain ⟨_, cv77, dv77⟩ := hv
        replace h := q_be h
        obtain ⟨a78, ea78, h⟩ := h
        subst ea78
        replace h := q_be h
        obtain ⟨v79, hv, h⟩ := h
        refine ⟨by decide, ⟨some _, rfl⟩, rfl, _, _, cv76, dv76, ⟨some _, rfl⟩, _, _, cv77, dv77, ?_⟩
        refine rX2_areRight hv ?_
        have kJ82 : ∀ w81 : Int32, w81 = (if ¬ v79 = 0 then (0 : Int32) else (1 : Int32)) → ps_At mX2_toldCodes (d + 3) 231 [(0, .ref x0), (1, .int x1), (2, .int x2)] [.int w81, .int v76, .ref x0] g75 Q := by
          rintro _ rfl
          refine sX2_toldCodes_231 ?_
          replace h := q_be h
          obtain ⟨g83, hv, h⟩ := h
          replace hv := q_sB_e hv
          obtain ⟨_, cg83, dg83, ng83, yg83⟩ := hv
          replace h := q_be h
          obtain ⟨v84, hv, h⟩ := h
          replace hv := q_fR_e hv
          obtain ⟨_, cv84, dv84⟩ := hv
          replace h := q_be h
          obtain ⟨a85, ea85, h⟩ := h
          subst ea85
          replace h := q_be h
          obtain ⟨v86, hv, h⟩ := h
          replace hv := q_fR_e hv
          obtain ⟨_, cv86, dv86⟩ := hv
          replace h := q_be h
          obtain ⟨a87, ea87, h⟩ := h
          subst ea87
          replace h := q_be h
          obtain ⟨u88, hv, h⟩ := h
          replace hv := q_ob_e hv
          obtain ⟨_, cu88⟩ := hv
          replace h := q_b2_e h
          obtain ⟨v89, g90, hv, h⟩ := h
          refine ⟨_, cg83, dg83, ng83.1, ng83.2, _, yg83, ⟨some _, rfl⟩, ⟨some _, rfl⟩, _, _, cv84, dv84, ⟨some _, rfl⟩, _, _, cv86, dv86, ⟨_, cu88⟩, ?_⟩
          refine rX2_order hv ?_
          replace h := q_be h
          obtain ⟨v91, hv, h⟩ := h
          replace hv := q_fI_e hv
          obtain ⟨_, cv91, dv91⟩ := hv
          replace h := q_be h
          obtain ⟨v92, hv, h⟩ := h
          replace hv := q_fR_e hv
          obtain ⟨_, cv92, dv92⟩ := hv
          replace h := q_be h
          obtain ⟨a93, ea93, h⟩ := h
          subst ea93
          replace h := q_be h
          obtain ⟨v94, hv, h⟩ := h
          refine ⟨by decide, ⟨some _, rfl⟩, rfl, _, _, cv91, dv91, ⟨some _, rfl⟩, _, _, cv92, dv92, ?_⟩
          refine rX2_areRight hv ?_
          refine And.intro (fun hc95 => ?_) (fun hc95 => ?_)
          · replace h := q_ifp (hc95) h
            exact ps_weak (pjX2_toldCodes_283 h hk) trivial
          · replace h := q_ifn (hc95) h
            replace h := q_be h
            obtain ⟨v97, hv, h⟩ := h
            replace hv := q_fR_e hv
            obtain ⟨_, cv97, dv97⟩ := hv
            replace h := q_be h
            obtain ⟨a98, ea98, h⟩ := h
            subst ea98
            replace h := q_be h
            obtain ⟨v99, hv, h⟩ := h
            replace hv := q_aI_e hv
            obtain ⟨_, _, cv99, iv99, yv99⟩ := hv
            refine ⟨⟨some _, rfl⟩, _, _, cv97, dv97, _, _, cv99, iv99, _, yv99, ?_⟩
            refine And.intro (fun hc100 => ?_) (fun hc100 => ?_)
            · replace h := q_ifp (hc100) h
              exact ps_weak (pjX2_toldCodes_283 h hk) trivial
            · replace h := q_ifn (hc100) h
              exact ps_weak (pjX2_toldCodes_284 h hk) trivial
        refine And.intro (fun hc80 => ?_) (fun hc80 => ?_)
        · refine sX2_toldCodes_230 ?_
          exact ps_weak (kJ82 _ (if_pos (hc80)).symm) ⟨rfl, rfl, rfl, trivial⟩
        · exact ps_weak (kJ82 _ (if_neg (hc80)).symm) ⟨rfl, rfl, rfl, trivial⟩
      refine ⟨⟨some _, rfl⟩, ⟨some _, rfl⟩, _, _, cv62, dv62, _, _, cv64, iv64, _, yv64, ?_⟩
      refine And.intro (fun hc65 => ?_) (fun hc65 => ?_)
      · refine sX2_toldCodes_188 ?_
        exact ps_weak (kJ67 _ (if_pos (hc65)).symm) ⟨rfl, rfl, rfl, trivial⟩
      · exact ps_weak (kJ67 _ (if_neg (hc65)).symm) ⟨rfl, rfl, rfl, trivial⟩
    · replace h := q_ifn (hc61) h
      cases h
      exact ⟨rfl, rfl, hk⟩
  refine And.intro (fun hc54 => ?_) (fun hc54 => ?_)
  · refine sX2_toldCodes_152 ?_
    exact ps_weak (kJ56 _ (if_pos (hc54)).symm) ⟨rfl, rfl, rfl, trivial⟩
  · exact ps_weak (kJ56 _ (if_neg (hc54)).symm) ⟨rfl, rfl, rfl, trivial⟩
noncomputable def fX2_toldCodes (g : ps_G) (x0 : Nat) : Option (ps_G) := Option.bind (q_ob 2 g x0) fun u1 => q_b2 (fX2_readBits g x0 (5 : Int32)) fun v2 g3 => Option.bind (q_ob 2 g3 x0) fun u4 => q_b2 (fX2_readBits g3 x0 (5 : Int32)) fun v5 g6 => Option.bind (q_ob 2 g6 x0) fun u7 => q_b2 (fX2_readBits g6 x0 (4 : Int32)) fun v8 g9 => Option.bind (q_fI 2 3 g9 x0) fun v10 => Option.bind (q_sB 2 3 g9 x0 (v10 ||| (if ¬ ((286 : Int32) < (v2 + (257 : Int32))) ∧ ((v5 + (1 : Int32)) ≤ (30 : Int32)) then (0 : Int32) else (1 : Int32)))) fun g15 => Option.bind (q_fR 2 7 g15 x0) fun v16 => Option.bind (v16) fun a17 => Option.bind (fJ7_fill_53178 g15 a17 (0 : Int32)) fun v18 => Option.bind (q_lp (fun s => bX2_toldCodes_64 x0 (v2 + (257 : Int32)) (v5 + (1 : Int32)) (v8 + (4 : Int32)) s.1 s.2) ((0 : Int32), v18)) fun s40 => jX2_toldCodes_108 s40 x0 (v2 + (257 : Int32)) (v5 + (1 : Int32))
theorem rX2_toldCodes {d : Nat} {Q : ps_Rs → ps_G → Prop} {g : ps_G} {x0 : Nat} {r : ps_G} (h : fX2_toldCodes g x0 = some r) (hk : Q (.inl none) r) : ps_Ok mX2_toldCodes (d + 3) [.ref x0] g Q := by
  unfold fX2_toldCodes at h
  refine sX2_toldCodes_0 ?_
  replace h := q_be h
  obtain ⟨u1, hv, h⟩ := h
  replace hv := q_ob_e hv
  obtain ⟨_, cu1⟩ := hv
  replace h := q_b2_e h
  obtain ⟨v2, g3, hv, h⟩ := h
  refine ⟨⟨some _, rfl⟩, ⟨_, cu1⟩, ?_⟩
  refine rX2_readBits hv ?_
  replace h := q_be h
  obtain ⟨u4, hv, h⟩ := h
  replace hv := q_ob_e hv
  obtain ⟨_, cu4⟩ := hv
  replace h := q_b2_e h
  obtain ⟨v5, g6, hv, h⟩ := h
  refine ⟨by decide, ⟨some _, rfl⟩, ⟨_, cu4⟩, ?_⟩
  refine rX2_readBits hv ?_
  replace h := q_be h
  obtain ⟨u7, hv, h⟩ := h
  replace hv := q_ob_e hv
  obtain ⟨_, cu7⟩ := hv
  replace h := q_b2_e h
  obtain ⟨v8, g9, hv, h⟩ := h
  refine ⟨by decide, ⟨some _, rfl⟩, ⟨_, cu7⟩, ?_⟩
  refine rX2_readBits hv ?_
  replace h := q_be h
  obtain ⟨v10, hv, h⟩ := h
  replace hv := q_fI_e hv
  obtain ⟨_, cv10, dv10⟩ := hv
  have kJ14 : ∀ w13 : Int32, w13 = (if ¬ ((286 : Int32) < (v2 + (257 : Int32))) ∧ ((v5 + (1 : Int32)) ≤ (30 : Int32)) then (0 : Int32) else (1 : Int32)) → ps_At mX2_toldCodes (d + 3) 49 [(0, .ref x0), (1, .int (v2 + (257 : Int32))), (2, .int (v5 + (1 : Int32))), (3, .int (v8 + (4 : Int32)))] [.int w13, .int v10, .ref x0] g9 Q := by
    rintro _ rfl
    refine sX2_toldCodes_49 ?_
    replace h := q_be h
    obtain ⟨g15, hv, h⟩ := h
    replace hv := q_sB_e hv
    obtain ⟨_, cg15, dg15, ng15, yg15⟩ := hv
    replace h := q_be h
    obtain ⟨v16, hv, h⟩ := h
    replace hv := q_fR_e hv
    obtain ⟨_, cv16, dv16⟩ := hv
    replace h := q_be h
    obtain ⟨a17, ea17, h⟩ := h
    subst ea17
    replace h := q_be h
    obtain ⟨v18, hv, h⟩ := h
    refine ⟨_, cg15, dg15, ng15.1, ng15.2, _, yg15, ⟨some _, rfl⟩, _, _, cv16, dv16, ?_⟩
    refine rJ7_fill_53178 hv ?_
    refine ⟨by decide, ?_⟩
    replace h := q_be h
    obtain ⟨s40, hl, h⟩ := h
    refine ps_weak (q_lp_ok hl (fun s => ps_At mX2_toldCodes (d + 3) 64 [(0, .ref x0), (1, .int (v2 + (257 : Int32))), (2, .int (v5 + (1 : Int32))), (3, .int (v8 + (4 : Int32))), (4, .int s.1)] [] s.2 Q) (fun r => ps_At mX2_toldCodes (d + 3) 108 [(0, .ref x0), (1, .int (v2 + (257 : Int32))), (2, .int (v5 + (1 : Int32)))] [] r Q) (fun s x hb hh he => pbX2_toldCodes_64 hb hh he) ?_) ⟨rfl, rfl, rfl, rfl, rfl, trivial⟩
    refine (?_ : ps_At mX2_toldCodes (d + 3) 108 [(0, .ref x0), (1, .int (v2 + (257 : Int32))), (2, .int (v5 + (1 : Int32)))] [] s40 Q)
    exact ps_weak (pjX2_toldCodes_108 h hk) ⟨rfl, rfl, rfl, trivial⟩
  refine ⟨by decide, ⟨some _, rfl⟩, rfl, _, _, cv10, dv10, ?_⟩
  refine And.intro (fun hc11 => ?_) (fun hc11 => ?_)
  · refine sX2_toldCodes_44 ?_
    exact ps_weak (kJ14 _ (if_neg (fun z => z.1 hc11)).symm) ⟨rfl, rfl, rfl, rfl, trivial⟩
  · refine And.intro (fun hc12 => ?_) (fun hc12 => ?_)
    · refine sX2_toldCodes_48 ?_
      exact ps_weak (kJ14 _ (if_pos (⟨hc11, hc12⟩)).symm) ⟨rfl, rfl, rfl, rfl, trivial⟩
    · refine sX2_toldCodes_44 ?_
      exact ps_weak (kJ14 _ (if_neg (fun z => hc12 z.2)).symm) ⟨rfl, rfl, rfl, rfl, trivial⟩
noncomputable def bX11_adler_7 (g : ps_G) (x0 : Nat) (x1 : Int32) (x2 : Int32) (x3 : Int32) (x4 : Int32) : Option ((Int32 × Int32 × Int32) ⊕ (Int32 × Int32)) := if x1 ≤ x4 then (some (.inr (x2, x3))) else (Option.bind (q_len g x0) fun v3 => if v3 ≤ x4 then (some (.inr (x2, x3))) else (Option.bind (q_aI g x0 x4) fun v6 => some (.inl (q_rem (x2 + v6) (65521 : Int32), q_rem (x3 + (q_rem (x2 + v6) (65521 : Int32))) (65521 : Int32), x4 + (1 : Int32)))))
theorem pbX11_adler_7 {d : Nat} {Q : ps_Rs → ps_G → Prop} {g : ps_G} {x0 : Nat} {x1 : Int32} {x2 : Int32} {x3 : Int32} {x4 : Int32} {x : (Int32 × Int32 × Int32) ⊕ (Int32 × Int32)} (h : bX11_adler_7 g x0 x1 x2 x3 x4 = some x) (hh : ∀ s' : Int32 × Int32 × Int32, x = .inl s' → ps_At mX11_adler d 7 [(0, .ref x0), (1, .int x1), (2, .int s'.1), (3, .int s'.2.1), (4, .int s'.2.2)] [] g Q) (he : ∀ r' : Int32 × Int32, x = .inr r' → ps_At mX11_adler d 45 [(2, .int r'.1), (3, .int r'.2)] [] g Q) : ps_At mX11_adler d 7 [(0, .ref x0), (1, .int x1), (2, .int x2), (3, .int x3), (4, .int x4)] [] g Q := by
  unfold bX11_adler_7 at h
  refine sX11_adler_7 ?_
  refine And.intro (fun hc1 => ?_) (fun hc1 => ?_)
  · replace h := q_ifp (hc1) h
    exact ps_weak (he (x2, x3) (Option.some.inj h).symm) ⟨rfl, rfl, trivial⟩
  · replace h := q_ifn (hc1) h
    replace h := q_be h
    obtain ⟨v3, hv, h⟩ := h
    replace hv := q_len_e hv
    obtain ⟨_, _, cv3, qv3, yv3⟩ := hv
    refine ⟨⟨some _, rfl⟩, _, _, cv3, qv3, _, yv3, ?_⟩
    refine And.intro (fun hc4 => ?_) (fun hc4 => ?_)
    · replace h := q_ifp (hc4) h
      exact ps_weak (he (x2, x3) (Option.some.inj h).symm) ⟨rfl, rfl, trivial⟩
    · replace h := q_ifn (hc4) h
      replace h := q_be h
      obtain ⟨v6, hv, h⟩ := h
      replace hv := q_aI_e hv
      obtain ⟨_, _, cv6, iv6, yv6⟩ := hv
      refine ⟨⟨some _, rfl⟩, _, _, cv6, iv6, _, yv6, by decide, _, rfl, by decide, by decide, _, rfl, by decide, by decide, ?_⟩
      exact ps_weak (hh (q_rem (x2 + v6) (65521 : Int32), q_rem (x3 + (q_rem (x2 + v6) (65521 : Int32))) (65521 : Int32), x4 + (1 : Int32)) (Option.some.inj h).symm) ⟨rfl, rfl, rfl, rfl, rfl, trivial⟩
noncomputable def jX11_adler_45 (g : ps_G) (x2 : Int32) (x3 : Int32) : Option (Int32) := some ((x3 * (65536 : Int32)) + x2)
theorem pjX11_adler_45 {d : Nat} {Q : ps_Rs → ps_G → Prop} {g : ps_G} {x2 : Int32} {x3 : Int32} {r : Int32} (h : jX11_adler_45 g x2 x3 = some r) (hk : Q (.inl (some (.int r))) g) : ps_At mX11_adler d 45 [(2, .int x2), (3, .int x3)] [] g Q := by
  unfold jX11_adler_45 at h
  refine sX11_adler_45 ?_
  cases h
  exact ⟨rfl, hk⟩
noncomputable def fX11_adler (g : ps_G) (x0 : Nat) (x1 : Int32) : Option (Int32) := Option.bind (q_lp (fun s => bX11_adler_7 g x0 x1 s.1 s.2.1 s.2.2) ((1 : Int32), (0 : Int32), (0 : Int32))) fun s11 => jX11_adler_45 g s11.1 s11.2
theorem rX11_adler {d : Nat} {Q : ps_Rs → ps_G → Prop} {g : ps_G} {x0 : Nat} {x1 : Int32} {r : Int32} (h : fX11_adler g x0 x1 = some r) (hk : Q (.inl (some (.int r))) g) : ps_Ok mX11_adler d [.ref x0, .int x1] g Q := by
  unfold fX11_adler at h
  refine sX11_adler_0 ?_
  refine ⟨by decide, by decide, by decide, ?_⟩
  replace h := q_be h
  obtain ⟨s11, hl, h⟩ := h
  refine ps_weak (q_lp_ok hl (fun s => ps_At mX11_adler d 7 [(0, .ref x0), (1, .int x1), (2, .int s.1), (3, .int s.2.1), (4, .int s.2.2)] [] g Q) (fun r => ps_At mX11_adler d 45 [(2, .int r.1), (3, .int r.2)] [] g Q) (fun s x hb hh he => pbX11_adler_7 hb hh he) ?_) ⟨rfl, rfl, rfl, rfl, rfl, trivial⟩
  refine (?_ : ps_At mX11_adler d 45 [(2, .int s11.1), (3, .int s11.2)] [] g Q)
  exact ps_weak (pjX11_adler_45 h hk) ⟨rfl, rfl, trivial⟩
noncomputable def jX2_inflate_190_86 (g : ps_G) (x0 : Nat) (x4 : Int32) (x5 : Int32) : Option ((Int32 × Int32 × ps_G) ⊕ (ps_G)) := some (.inl (x4, x5 + (1 : Int32), g))
theorem pjX2_inflate_190_86 {d : Nat} {Q : ps_Rs → ps_G → Prop} {g : ps_G} {x0 : Nat} {x4 : Int32} {x5 : Int32} {x : (Int32 × Int32 × ps_G) ⊕ (ps_G)} (h : jX2_inflate_190_86 g x0 x4 x5 = some x) (hh : ∀ s' : Int32 × Int32 × ps_G, x = .inl s' → ps_At mX2_inflate (d + 4) 86 [(0, .ref x0), (4, .int s'.1), (5, .int s'.2.1)] [] s'.2.2 Q) (he : ∀ r' : ps_G, x = .inr r' → ps_At mX2_inflate (d + 4) 196 [(0, .ref x0)] [] r' Q) : ps_At mX2_inflate (d + 4) 190 [(0, .ref x0), (4, .int x4), (5, .int x5)] [] g Q := by
  unfold jX2_inflate_190_86 at h
  refine sX2_inflate_190 ?_
  refine ⟨by decide, ?_⟩
  exact ps_weak (hh (x4, x5 + (1 : Int32), g) (Option.some.inj h).symm) ⟨rfl, rfl, rfl, trivial⟩
noncomputable def bX2_inflate_86 (x0 : Nat) (x4 : Int32) (x5 : Int32) (g : ps_G) : Option ((Int32 × Int32 × ps_G) ⊕ (ps_G)) := if ((64000 : Int32) ≤ x5) ∨ (¬ x4 = 0) then (some (.inr g)) else (Option.bind (q_fI 2 3 g x0) fun v17 => if ¬ v17 = 0 then (some (.inr g)) else (Option.bind (q_ob 2 g x0) fun u20 => q_b2 (fX2_readBits g x0 (1 : Int32)) fun v21 g22 => Option.bind (q_ob 2 g22 x0) fun u26 => q_b2 (fX2_readBits g22 x0 (2 : Int32)) fun v27 g28 => if v27 = 0 then (Option.bind (q_ob 2 g28 x0) fun u30 => Option.bind (fX2_stored g28 x0) fun v31 => jX2_inflate_190_86 v31 x0 (if ¬ v21 = (1 : Int32) then (0 : Int32) else (1 : Int32)) x5) else (if v27 = 1 then (Option.bind (q_ob 2 g28 x0) fun u33 => Option.bind (fX2_fixedCodes g28 x0) fun v34 => Option.bind (q_ob 2 v34 x0) fun u35 => Option.bind (fX2_symbols v34 x0) fun v36 => jX2_inflate_190_86 v36 x0 (if ¬ v21 = (1 : Int32) then (0 : Int32) else (1 : Int32)) x5) else (if v27 = 2 then (Option.bind (q_ob 2 g28 x0) fun u38 => Option.bind (fX2_toldCodes g28 x0) fun v39 => Option.bind (q_ob 2 v39 x0) fun u40 => Option.bind (fX2_symbols v39 x0) fun v41 => jX2_inflate_190_86 v41 x0 (if ¬ v21 = (1 : Int32) then (0 : Int32) else (1 : Int32)) x5) else (Option.bind (q_sB 2 3 g28 x0 (1 : Int32)) fun g42 => jX2_inflate_190_86 g42 x0 (if ¬ v21 = (1 : Int32) then (0 : Int32) else (1 : Int32)) x5)))))
theorem pbX2_inflate_86 {d : Nat} {Q : ps_Rs → ps_G → Prop}  {x0 : Nat} {x4 : Int32} {x5 : Int32} {g : ps_G} {x : (Int32 × Int32 × ps_G) ⊕ (ps_G)} (h : bX2_inflate_86 x0 x4 x5 g = some x) (hh : ∀ s' : Int32 × Int32 × ps_G, x = .inl s' → ps_At mX2_inflate (d + 4) 86 [(0, .ref x0), (4, .int s'.1), (5, .int s'.2.1)] [] s'.2.2 Q) (he : ∀ r' : ps_G, x = .inr r' → ps_At mX2_inflate (d + 4) 196 [(0, .ref x0)] [] r' Q) : ps_At mX2_inflate (d + 4) 86 [(0, .ref x0), (4, .int x4), (5, .int x5)] [] g Q := by
  unfold bX2_inflate_86 at h
  refine sX2_inflate_86 ?_
  have kT45 : (some (.inr g)) = some x → ps_At mX2_inflate (d + 4) 196 [(0, .ref x0)] [] g Q := fun h => by
    exact ps_weak (he g (Option.some.inj h).symm) ⟨rfl, trivial⟩
  refine And.intro (fun hc14 => ?_) (fun hc14 => ?_)
  · exact ps_weak (kT45 (q_ifp (Or.inl hc14) h)) ⟨rfl, trivial⟩
  · refine And.intro (fun hc15 => ?_) (fun hc15 => ?_)
    · exact ps_weak (kT45 (q_ifp (Or.inr (hc15)) h)) ⟨rfl, trivial⟩
    · replace h := q_ifn (not_or.mpr ⟨hc14, hc15⟩) h
      replace h := q_be h
      obtain ⟨v17, hv, h⟩ := h
      replace hv := q_fI_e hv
      obtain ⟨_, cv17, dv17⟩ := hv
      refine ⟨⟨some _, rfl⟩, _, _, cv17, dv17, ?_⟩
      refine And.intro (fun hc18 => ?_) (fun hc18 => ?_)
      · replace h := q_ifp (hc18) h
        exact ps_weak (he g (Option.some.inj h).symm) ⟨rfl, trivial⟩
      · replace h := q_ifn (hc18) h
        replace h := q_be h
        obtain ⟨u20, hv, h⟩ := h
        replace hv := q_ob_e hv
        obtain ⟨_, cu20⟩ := hv
        replace h := q_b2_e h
        obtain ⟨v21, g22, hv, h⟩ := h
        refine ⟨⟨some _, rfl⟩, ⟨_, cu20⟩, ?_⟩
        refine rX2_readBits hv ?_
        have kJ25 : ∀ w24 : Int32, w24 = (if ¬ v21 = (1 : Int32) then (0 : Int32) else (1 : Int32)) → ps_At mX2_inflate (d + 4) 119 [(0, .ref x0), (5, .int x5)] [.int w24] g22 Q := by
          rintro _ rfl
          refine sX2_inflate_119 ?_
          replace h := q_be h
          obtain ⟨u26, hv, h⟩ := h
          replace hv := q_ob_e hv
          obtain ⟨_, cu26⟩ := hv
          replace h := q_b2_e h
          obtain ⟨v27, g28, hv, h⟩ := h
          refine ⟨by decide, ⟨some _, rfl⟩, ⟨_, cu26⟩, ?_⟩
          refine rX2_readBits hv ?_
          refine ⟨by decide, ?_⟩
          refine sX2_inflate_130 ?_
          by_cases hc29 : v27 = 0
          · replace h := q_ifp hc29 h
            have eT : ps_tsel 130 55 0 2 #[26, 33, 44] v27 = 156 := by
              rw [hc29]; decide +kernel
            refine ps_at_eq eT ?_
            refine sX2_inflate_156 ?_
            replace h := q_be h
            obtain ⟨u30, hv, h⟩ := h
            replace hv := q_ob_e hv
            obtain ⟨_, cu30⟩ := hv
            replace h := q_be h
            obtain ⟨v31, hv, h⟩ := h
            refine ⟨⟨some _, rfl⟩, ⟨_, cu30⟩, ?_⟩
            refine rX2_stored hv ?_
            exact ps_weak (pjX2_inflate_190_86 h hh he) ⟨rfl, rfl, rfl, trivial⟩
          replace h := q_ifn hc29 h
          by_cases hc32 : v27 = 1
          · replace h := q_ifp hc32 h
            have eT : ps_tsel 130 55 0 2 #[26, 33, 44] v27 = 163 := by
              rw [hc32]; decide +kernel
            refine ps_at_eq eT ?_
            refine sX2_inflate_163 ?_
            replace h := q_be h
            obtain ⟨u33, hv, h⟩ := h
            replace hv := q_ob_e hv
            obtain ⟨_, cu33⟩ := hv
            replace h := q_be h
            obtain ⟨v34, hv, h⟩ := h
            refine ⟨⟨some _, rfl⟩, ⟨_, cu33⟩, ?_⟩
            refine rX2_fixedCodes hv ?_
            replace h := q_be h
            obtain ⟨u35, hv, h⟩ := h
            replace hv := q_ob_e hv
            obtain ⟨_, cu35⟩ := hv
            replace h := q_be h
            obtain ⟨v36, hv, h⟩ := h
            refine ⟨⟨some _, rfl⟩, ⟨_, cu35⟩, ?_⟩
            refine rX2_symbols hv ?_
            exact ps_weak (pjX2_inflate_190_86 h hh he) ⟨rfl, rfl, rfl, trivial⟩
          replace h := q_ifn hc32 h
          by_cases hc37 : v27 = 2
          · replace h := q_ifp hc37 h
            have eT : ps_tsel 130 55 0 2 #[26, 33, 44] v27 = 174 := by
              rw [hc37]; decide +kernel
            refine ps_at_eq eT ?_
            refine sX2_inflate_174 ?_
            replace h := q_be h
            obtain ⟨u38, hv, h⟩ := h
            replace hv := q_ob_e hv
            obtain ⟨_, cu38⟩ := hv
            replace h := q_be h
            obtain ⟨v39, hv, h⟩ := h
            refine ⟨⟨some _, rfl⟩, ⟨_, cu38⟩, ?_⟩
            refine rX2_toldCodes hv ?_
            replace h := q_be h
            obtain ⟨u40, hv, h⟩ := h
            replace hv := q_ob_e hv
            obtain ⟨_, cu40⟩ := hv
            replace h := q_be h
            obtain ⟨v41, hv, h⟩ := h
            refine ⟨⟨some _, rfl⟩, ⟨_, cu40⟩, ?_⟩
            refine rX2_symbols hv ?_
            exact ps_weak (pjX2_inflate_190_86 h hh he) ⟨rfl, rfl, rfl, trivial⟩
          replace h := q_ifn hc37 h
          have eD : ps_tsel 130 55 0 2 #[26, 33, 44] v27 = 185 := by
            refine q_tsd (by decide +kernel) (fun z h1 h2 => ?_)
            have hz : z = 0 ∨ z = 1 ∨ z = 2 := by omega
            rcases hz with rfl | rfl | rfl
            · exact Or.inl (q_tsx (v := 0) (fun z => hc29 z))
            · exact Or.inl (q_tsx (v := 1) (fun z => hc32 z))
            · exact Or.inl (q_tsx (v := 2) (fun z => hc37 z))
          refine ps_at_eq eD ?_
          refine sX2_inflate_185 ?_
          replace h := q_be h
          obtain ⟨g42, hv, h⟩ := h
          replace hv := q_sB_e hv
          obtain ⟨_, cg42, dg42, ng42, yg42⟩ := hv
          refine ⟨⟨some _, rfl⟩, _, cg42, dg42, ng42.1, ng42.2, _, yg42, ?_⟩
          exact ps_weak (pjX2_inflate_190_86 h hh he) ⟨rfl, rfl, rfl, trivial⟩
        refine And.intro (fun hc23 => ?_) (fun hc23 => ?_)
        · refine sX2_inflate_118 ?_
          exact ps_weak (kJ25 _ (if_pos (hc23)).symm) ⟨rfl, rfl, trivial⟩
        · exact ps_weak (kJ25 _ (if_neg (hc23)).symm) ⟨rfl, rfl, trivial⟩
noncomputable def jX2_inflate_291 (g : ps_G) (k0 : Int32) : Option (Int32 × ps_G) := Option.bind (q_bl k0) fun v64 => some (v64, g)
theorem pjX2_inflate_291 {d : Nat} {Q : ps_Rs → ps_G → Prop} {g : ps_G} {k0 : Int32} {r : Int32 × ps_G} (h : jX2_inflate_291 g k0 = some r) (hk : Q (.inl (some (.int r.1))) r.2) : ps_At mX2_inflate (d + 4) 291 [] [.int k0] g Q := by
  unfold jX2_inflate_291 at h
  refine sX2_inflate_291 ?_
  replace h := q_be h
  obtain ⟨v64, hv, h⟩ := h
  replace hv := q_bl_e hv
  obtain ⟨zv64, rfl⟩ := hv
  cases h
  exact ⟨rfl, zv64, hk⟩
noncomputable def jX2_inflate_290 (g : ps_G) : Option (Int32 × ps_G) := jX2_inflate_291 g (0 : Int32)
theorem pjX2_inflate_290 {d : Nat} {Q : ps_Rs → ps_G → Prop} {g : ps_G}  {r : Int32 × ps_G} (h : jX2_inflate_290 g = some r) (hk : Q (.inl (some (.int r.1))) r.2) : ps_At mX2_inflate (d + 4) 290 [] [] g Q := by
  unfold jX2_inflate_290 at h
  refine sX2_inflate_290 ?_
  exact ps_weak (pjX2_inflate_291 h hk) trivial
noncomputable def jX2_inflate_196 (g : ps_G) (x0 : Nat) : Option (Int32 × ps_G) := Option.bind (q_ob 2 g x0) fun u48 => Option.bind (fX2_toByte g x0) fun v49 => Option.bind (q_ob 2 v49 x0) fun u50 => q_b2 (fX2_readBits v49 x0 (8 : Int32)) fun v51 g52 => Option.bind (q_ob 2 g52 x0) fun u53 => q_b2 (fX2_readBits g52 x0 (8 : Int32)) fun v54 g55 => Option.bind (q_ob 2 g55 x0) fun u56 => q_b2 (fX2_readBits g55 x0 (8 : Int32)) fun v57 g58 => Option.bind (q_ob 2 g58 x0) fun u59 => q_b2 (fX2_readBits g58 x0 (8 : Int32)) fun v60 g61 => Option.bind (q_fI 2 3 g61 x0) fun v62 => if ¬ v62 = 0 then (jX2_inflate_290 g61) else (Option.bind (q_fI 2 2 g61 x0) fun v65 => Option.bind (q_fI 2 1 g61 x0) fun v66 => if ¬ v65 = ((8 : Int32) * v66) then (jX2_inflate_290 g61) else (Option.bind (q_fI 2 5 g61 x0) fun v68 => Option.bind (q_fI 2 6 g61 x0) fun v69 => if ¬ v68 = v69 then (jX2_inflate_290 g61) else (Option.bind (q_fR 2 4 g61 x0) fun v71 => Option.bind (v71) fun a72 => Option.bind (q_fI 2 5 g61 x0) fun v73 => Option.bind (fX11_adler g61 a72 v73) fun v74 => if ¬ ((((q_shl v51 (24 : Int32)) ||| (q_shl v54 (16 : Int32))) ||| (q_shl v57 (8 : Int32))) ||| v60) = v74 then (jX2_inflate_290 g61) else (jX2_inflate_291 g61 (1 : Int32)))))
theorem pjX2_inflate_196 {d : Nat} {Q : ps_Rs → ps_G → Prop} {g : ps_G} {x0 : Nat} {r : Int32 × ps_G} (h : jX2_inflate_196 g x0 = some r) (hk : Q (.inl (some (.int r.1))) r.2) : ps_At mX2_inflate (d + 4) 196 [(0, .ref x0)] [] g Q := by
  unfold jX2_inflate_196 at h
  refine sX2_inflate_196 ?_
  replace h := q_be h
  obtain ⟨u48, hv, h⟩ := h
  replace hv := q_ob_e hv
  obtain ⟨_, cu48⟩ := hv
  replace h := q_be h
  obtain ⟨v49, hv, h⟩ := h
  refine ⟨⟨some _, rfl⟩, ⟨_, cu48⟩, ?_⟩
  refine rX2_toByte hv ?_
  replace h := q_be h
  obtain ⟨u50, hv, h⟩ := h
  replace hv := q_ob_e hv
  obtain ⟨_, cu50⟩ := hv
  replace h := q_b2_e h
  obtain ⟨v51, g52, hv, h⟩ := h
  refine ⟨⟨some _, rfl⟩, ⟨_, cu50⟩, ?_⟩
  refine rX2_readBits hv ?_
  replace h := q_be h
  obtain ⟨u53, hv, h⟩ := h
  replace hv := q_ob_e hv
  obtain ⟨_, cu53⟩ := hv
  replace h := q_b2_e h
  obtain ⟨v54, g55, hv, h⟩ := h
  refine ⟨⟨some _, rfl⟩, ⟨_, cu53⟩, ?_⟩
  refine rX2_readBits hv ?_
  replace h := q_be h
  obtain ⟨u56, hv, h⟩ := h
  replace hv := q_ob_e hv
  obtain ⟨_, cu56⟩ := hv
  replace h := q_b2_e h
  obtain ⟨v57, g58, hv, h⟩ := h
  refine ⟨⟨some _, rfl⟩, ⟨_, cu56⟩, ?_⟩
  refine rX2_readBits hv ?_
  refine sX2_inflate_225 ?_
  replace h := q_be h
  obtain ⟨u59, hv, h⟩ := h
  replace hv := q_ob_e hv
  obtain ⟨_, cu59⟩ := hv
  replace h := q_b2_e h
  obtain ⟨v60, g61, hv, h⟩ := h
  refine ⟨⟨some _, rfl⟩, ⟨_, cu59⟩, ?_⟩
  refine rX2_readBits hv ?_
  replace h := q_be h
  obtain ⟨v62, hv, h⟩ := h
  replace hv := q_fI_e hv
  obtain ⟨_, cv62, dv62⟩ := hv
  refine ⟨by decide, ⟨some _, rfl⟩, _, _, cv62, dv62, ?_⟩
  refine And.intro (fun hc63 => ?_) (fun hc63 => ?_)
  · replace h := q_ifp (hc63) h
    exact ps_weak (pjX2_inflate_290 h hk) trivial
  · replace h := q_ifn (hc63) h
    replace h := q_be h
    obtain ⟨v65, hv, h⟩ := h
    replace hv := q_fI_e hv
    obtain ⟨_, cv65, dv65⟩ := hv
    replace h := q_be h
    obtain ⟨v66, hv, h⟩ := h
    replace hv := q_fI_e hv
    obtain ⟨_, cv66, dv66⟩ := hv
    refine ⟨⟨some _, rfl⟩, _, _, cv65, dv65, ⟨some _, rfl⟩, _, _, cv66, dv66, ?_⟩
    refine And.intro (fun hc67 => ?_) (fun hc67 => ?_)
    · replace h := q_ifp (hc67) h
      exact ps_weak (pjX2_inflate_290 h hk) trivial
    · replace h := q_ifn (hc67) h
      replace h := q_be h
      obtain ⟨v68, hv, h⟩ := h
      replace hv := q_fI_e hv
      obtain ⟨_, cv68, dv68⟩ := hv
      replace h := q_be h
      obtain ⟨v69, hv, h⟩ := h
      replace hv := q_fI_e hv
      obtain ⟨_, cv69, dv69⟩ := hv
      refine ⟨⟨some _, rfl⟩, _, _, cv68, dv68, ⟨some _, rfl⟩, _, _, cv69, dv69, ?_⟩
      refine And.intro (fun hc70 => ?_) (fun hc70 => ?_)
      · replace h := q_ifp (hc70) h
        exact ps_weak (pjX2_inflate_290 h hk) trivial
      · replace h := q_ifn (hc70) h
        replace h := q_be h
        obtain ⟨v71, hv, h⟩ := h
        replace hv := q_fR_e hv
        obtain ⟨_, cv71, dv71⟩ := hv
        replace h := q_be h
        obtain ⟨a72, ea72, h⟩ := h
        subst ea72
        replace h := q_be h
        obtain ⟨v73, hv, h⟩ := h
        replace hv := q_fI_e hv
        obtain ⟨_, cv73, dv73⟩ := hv
        replace h := q_be h
        obtain ⟨v74, hv, h⟩ := h
        refine ⟨⟨some _, rfl⟩, _, _, cv71, dv71, ⟨some _, rfl⟩, _, _, cv73, dv73, ?_⟩
        refine rX11_adler hv ?_
        refine And.intro (fun hc75 => ?_) (fun hc75 => ?_)
        · replace h := q_ifp (hc75) h
          exact ps_weak (pjX2_inflate_290 h hk) trivial
        · replace h := q_ifn (hc75) h
          exact ps_weak (pjX2_inflate_291 h hk) trivial
noncomputable def jX2_inflate_76 (g : ps_G) (x0 : Nat) (k0 : Nat) (k1 : Int32) (k2 : Int32) : Option (Int32 × ps_G) := Option.bind (q_sB 2 3 g k0 (k1 ||| k2)) fun g13 => Option.bind (q_lp (fun s => bX2_inflate_86 x0 s.1 s.2.1 s.2.2) ((0 : Int32), (0 : Int32), g13)) fun s47 => jX2_inflate_196 s47 x0
theorem pjX2_inflate_76 {d : Nat} {Q : ps_Rs → ps_G → Prop} {g : ps_G} {x0 : Nat} {k0 : Nat} {k1 : Int32} {k2 : Int32} {r : Int32 × ps_G} (h : jX2_inflate_76 g x0 k0 k1 k2 = some r) (hk : Q (.inl (some (.int r.1))) r.2) : ps_At mX2_inflate (d + 4) 76 [(0, .ref x0)] [.int k2, .int k1, .ref k0] g Q := by
  unfold jX2_inflate_76 at h
  refine sX2_inflate_76 ?_
  replace h := q_be h
  obtain ⟨g13, hv, h⟩ := h
  replace hv := q_sB_e hv
  obtain ⟨_, cg13, dg13, ng13, yg13⟩ := hv
  refine ⟨_, cg13, dg13, ng13.1, ng13.2, _, yg13, by decide, by decide, ?_⟩
  replace h := q_be h
  obtain ⟨s47, hl, h⟩ := h
  refine ps_weak (q_lp_ok hl (fun s => ps_At mX2_inflate (d + 4) 86 [(0, .ref x0), (4, .int s.1), (5, .int s.2.1)] [] s.2.2 Q) (fun r => ps_At mX2_inflate (d + 4) 196 [(0, .ref x0)] [] r Q) (fun s x hb hh he => pbX2_inflate_86 hb hh he) ?_) ⟨rfl, rfl, rfl, trivial⟩
  refine (?_ : ps_At mX2_inflate (d + 4) 196 [(0, .ref x0)] [] s47 Q)
  exact ps_weak (pjX2_inflate_196 h hk) ⟨rfl, trivial⟩
noncomputable def jX2_inflate_71 (g : ps_G) (x0 : Nat) (k0 : Nat) (k1 : Int32) : Option (Int32 × ps_G) := jX2_inflate_76 g x0 k0 k1 (1 : Int32)
theorem pjX2_inflate_71 {d : Nat} {Q : ps_Rs → ps_G → Prop} {g : ps_G} {x0 : Nat} {k0 : Nat} {k1 : Int32} {r : Int32 × ps_G} (h : jX2_inflate_71 g x0 k0 k1 = some r) (hk : Q (.inl (some (.int r.1))) r.2) : ps_At mX2_inflate (d + 4) 71 [(0, .ref x0)] [.int k1, .ref k0] g Q := by
  unfold jX2_inflate_71 at h
  refine sX2_inflate_71 ?_
  exact ps_weak (pjX2_inflate_76 h hk) ⟨rfl, trivial⟩
noncomputable def fX2_inflate (g : ps_G) (x0 : Nat) (x1 : Int32) : Option (Int32 × ps_G) := Option.bind (q_sI 2 2 g x0 (0 : Int32)) fun g1 => Option.bind (q_sI 2 5 g1 x0 (0 : Int32)) fun g2 => Option.bind (q_sB 2 3 g2 x0 (0 : Int32)) fun g3 => Option.bind (q_sI 2 6 g3 x0 (fJ9_min_7cf53 x1 (2328 : Int32))) fun g4 => Option.bind (q_ob 2 g4 x0) fun u5 => q_b2 (fX2_readBits g4 x0 (8 : Int32)) fun v6 g7 => Option.bind (q_ob 2 g7 x0) fun u8 => q_b2 (fX2_readBits g7 x0 (8 : Int32)) fun v9 g10 => Option.bind (q_fI 2 3 g10 x0) fun v11 => if ¬ v6 = (120 : Int32) then (jX2_inflate_71 g10 x0 x0 v11) else (if ¬ (q_rem ((v6 * (256 : Int32)) + v9) (31 : Int32)) = 0 then (jX2_inflate_71 g10 x0 x0 v11) else (if (v9 &&& (32 : Int32)) = 0 then (jX2_inflate_76 g10 x0 x0 v11 (0 : Int32)) else (jX2_inflate_71 g10 x0 x0 v11)))
theorem rX2_inflate {d : Nat} {Q : ps_Rs → ps_G → Prop} {g : ps_G} {x0 : Nat} {x1 : Int32} {r : Int32 × ps_G} (h : fX2_inflate g x0 x1 = some r) (hk : Q (.inl (some (.int r.1))) r.2) : ps_Ok mX2_inflate (d + 4) [.ref x0, .int x1] g Q := by
  unfold fX2_inflate at h
  refine sX2_inflate_0 ?_
  replace h := q_be h
  obtain ⟨g1, hv, h⟩ := h
  replace hv := q_sI_e hv
  obtain ⟨_, cg1, dg1, yg1⟩ := hv
  replace h := q_be h
  obtain ⟨g2, hv, h⟩ := h
  replace hv := q_sI_e hv
  obtain ⟨_, cg2, dg2, yg2⟩ := hv
  replace h := q_be h
  obtain ⟨g3, hv, h⟩ := h
  replace hv := q_sB_e hv
  obtain ⟨_, cg3, dg3, ng3, yg3⟩ := hv
  refine ⟨⟨some _, rfl⟩, _, cg1, dg1, rfl, rfl, _, yg1, ⟨some _, rfl⟩, _, cg2, dg2, rfl, rfl, _, yg2, ⟨some _, rfl⟩, _, cg3, dg3, ng3.1, ng3.2, _, yg3, ⟨some _, rfl⟩, ?_⟩
  refine rJ9_min_7cf53 rfl ?_
  replace h := q_be h
  obtain ⟨g4, hv, h⟩ := h
  replace hv := q_sI_e hv
  obtain ⟨_, cg4, dg4, yg4⟩ := hv
  replace h := q_be h
  obtain ⟨u5, hv, h⟩ := h
  replace hv := q_ob_e hv
  obtain ⟨_, cu5⟩ := hv
  replace h := q_b2_e h
  obtain ⟨v6, g7, hv, h⟩ := h
  refine ⟨_, cg4, dg4, rfl, rfl, _, yg4, ⟨some _, rfl⟩, ⟨_, cu5⟩, ?_⟩
  refine rX2_readBits hv ?_
  replace h := q_be h
  obtain ⟨u8, hv, h⟩ := h
  replace hv := q_ob_e hv
  obtain ⟨_, cu8⟩ := hv
  replace h := q_b2_e h
  obtain ⟨v9, g10, hv, h⟩ := h
  refine ⟨by decide, ⟨some _, rfl⟩, ⟨_, cu8⟩, ?_⟩
  refine rX2_readBits hv ?_
  replace h := q_be h
  obtain ⟨v11, hv, h⟩ := h
  replace hv := q_fI_e hv
  obtain ⟨_, cv11, dv11⟩ := hv
  refine ⟨by decide, ⟨some _, rfl⟩, rfl, _, _, cv11, dv11, ?_⟩
  refine And.intro (fun hc12 => ?_) (fun hc12 => ?_)
  · replace h := q_ifp (hc12) h
    exact ps_weak (pjX2_inflate_71 h hk) ⟨rfl, trivial⟩
  · replace h := q_ifn (hc12) h
    refine ⟨by decide, _, rfl, ?_⟩
    refine And.intro (fun hc84 => ?_) (fun hc84 => ?_)
    · replace h := q_ifp (hc84) h
      exact ps_weak (pjX2_inflate_71 h hk) ⟨rfl, trivial⟩
    · replace h := q_ifn (hc84) h
      refine And.intro (fun hc85 => ?_) (fun hc85 => ?_)
      · replace h := q_ifp (hc85) h
        refine sX2_inflate_75 ?_
        exact ps_weak (pjX2_inflate_76 h hk) ⟨rfl, trivial⟩
      · replace h := q_ifn (hc85) h
        exact ps_weak (pjX2_inflate_71 h hk) ⟨rfl, trivial⟩
def fX11_foretold (x0 : Int32) (x1 : Int32) (x2 : Int32) (x3 : Int32) : Int32 := if x0 = 1 then (x1) else (if x0 = 2 then (x2) else (if x0 = 3 then ((x1 + x2) / (2 : Int32)) else (if x0 = 4 then ((if ((fJ9_abs_0f7a4 (((x1 + x2) - x3) - x2)) < (fJ9_abs_0f7a4 (((x1 + x2) - x3) - x1))) ∨ ((fJ9_abs_0f7a4 (((x1 + x2) - x3) - x3)) < (fJ9_abs_0f7a4 (((x1 + x2) - x3) - x1))) then (if (fJ9_abs_0f7a4 (((x1 + x2) - x3) - x3)) < (fJ9_abs_0f7a4 (((x1 + x2) - x3) - x2)) then x3 else x2) else x1)) else ((0 : Int32)))))
theorem rX11_foretold {d : Nat} {Q : ps_Rs → ps_G → Prop} {g : ps_G} {x0 : Int32} {x1 : Int32} {x2 : Int32} {x3 : Int32} {r : Int32} (h : fX11_foretold x0 x1 x2 x3 = r) (hk : Q (.inl (some (.int r))) g) : ps_Ok mX11_foretold (d + 1) [.int x0, .int x1, .int x2, .int x3] g Q := by
  unfold fX11_foretold at h
  refine sX11_foretold_0 ?_
  refine sX11_foretold_1 ?_
  by_cases hc1 : x0 = 1
  · replace h := q_ifp hc1 h
    have eT : ps_tsel 1 106 1 4 #[31, 33, 35, 41] x0 = 32 := by
      rw [hc1]; decide +kernel
    refine ps_at_eq eT ?_
    refine sX11_foretold_32 ?_
    subst h
    exact ⟨rfl, hk⟩
  replace h := q_ifn hc1 h
  by_cases hc2 : x0 = 2
  · replace h := q_ifp hc2 h
    have eT : ps_tsel 1 106 1 4 #[31, 33, 35, 41] x0 = 34 := by
      rw [hc2]; decide +kernel
    refine ps_at_eq eT ?_
    refine sX11_foretold_34 ?_
    subst h
    exact ⟨rfl, hk⟩
  replace h := q_ifn hc2 h
  by_cases hc3 : x0 = 3
  · replace h := q_ifp hc3 h
    have eT : ps_tsel 1 106 1 4 #[31, 33, 35, 41] x0 = 36 := by
      rw [hc3]; decide +kernel
    refine ps_at_eq eT ?_
    refine sX11_foretold_36 ?_
    subst h
    exact ⟨by decide, _, rfl, rfl, hk⟩
  replace h := q_ifn hc3 h
  by_cases hc4 : x0 = 4
  · replace h := q_ifp hc4 h
    have eT : ps_tsel 1 106 1 4 #[31, 33, 35, 41] x0 = 42 := by
      rw [hc4]; decide +kernel
    refine ps_at_eq eT ?_
    refine sX11_foretold_42 ?_
    refine ⟨by decide, ?_⟩
    refine rJ9_abs_0f7a4 rfl ?_
    refine ⟨by decide, ?_⟩
    refine rJ9_abs_0f7a4 rfl ?_
    refine ⟨by decide, ?_⟩
    refine rJ9_abs_0f7a4 rfl ?_
    have kJ8 : ∀ w7 : Int32, w7 = (if ((fJ9_abs_0f7a4 (((x1 + x2) - x3) - x2)) < (fJ9_abs_0f7a4 (((x1 + x2) - x3) - x1))) ∨ ((fJ9_abs_0f7a4 (((x1 + x2) - x3) - x3)) < (fJ9_abs_0f7a4 (((x1 + x2) - x3) - x1))) then (if (fJ9_abs_0f7a4 (((x1 + x2) - x3) - x3)) < (fJ9_abs_0f7a4 (((x1 + x2) - x3) - x2)) then x3 else x2) else x1) → ps_At mX11_foretold (d + 1) 106 [] [.int w7] g Q := by
      rintro _ rfl
      refine sX11_foretold_106 ?_
      subst h
      exact ⟨rfl, hk⟩
    refine ⟨by decide, ?_⟩
    refine And.intro (fun hc5 => ?_) (fun hc5 => ?_)
    · refine sX11_foretold_94 ?_
      have kJ11 : ∀ w10 : Int32, w10 = (if (fJ9_abs_0f7a4 (((x1 + x2) - x3) - x3)) < (fJ9_abs_0f7a4 (((x1 + x2) - x3) - x2)) then x3 else x2) → ps_At mX11_foretold (d + 1) 106 [] [.int w10] g Q := by
        rintro _ rfl
        exact ps_weak (kJ8 _ (if_pos (Or.inl hc5)).symm) trivial
      refine And.intro (fun hc9 => ?_) (fun hc9 => ?_)
      · refine sX11_foretold_105 ?_
        exact ps_weak (kJ11 _ (if_pos (hc9)).symm) trivial
      · exact ps_weak (kJ11 _ (if_neg (hc9)).symm) trivial
    · refine And.intro (fun hc6 => ?_) (fun hc6 => ?_)
      · refine sX11_foretold_94 ?_
        have kJ14 : ∀ w13 : Int32, w13 = (if (fJ9_abs_0f7a4 (((x1 + x2) - x3) - x3)) < (fJ9_abs_0f7a4 (((x1 + x2) - x3) - x2)) then x3 else x2) → ps_At mX11_foretold (d + 1) 106 [] [.int w13] g Q := by
          rintro _ rfl
          exact ps_weak (kJ8 _ (if_pos (Or.inr (hc6))).symm) trivial
        refine And.intro (fun hc12 => ?_) (fun hc12 => ?_)
        · refine sX11_foretold_105 ?_
          exact ps_weak (kJ14 _ (if_pos (hc12)).symm) trivial
        · exact ps_weak (kJ14 _ (if_neg (hc12)).symm) trivial
      · exact ps_weak (kJ8 _ (if_neg (not_or.mpr ⟨hc5, hc6⟩)).symm) trivial
  replace h := q_ifn hc4 h
  have eD : ps_tsel 1 106 1 4 #[31, 33, 35, 41] x0 = 107 := by
    refine q_tsd (by decide +kernel) (fun z h1 h2 => ?_)
    have hz : z = 1 ∨ z = 2 ∨ z = 3 ∨ z = 4 := by omega
    rcases hz with rfl | rfl | rfl | rfl
    · exact Or.inl (q_tsx (v := 1) (fun z => hc1 z))
    · exact Or.inl (q_tsx (v := 2) (fun z => hc2 z))
    · exact Or.inl (q_tsx (v := 3) (fun z => hc3 z))
    · exact Or.inl (q_tsx (v := 4) (fun z => hc4 z))
  refine ps_at_eq eD ?_
  refine sX11_foretold_107 ?_
  subst h
  exact ⟨rfl, hk⟩
noncomputable def jX2_change_30 (g : ps_G) : Option (ps_G) := some g
theorem pjX2_change_30 {d : Nat} {Q : ps_Rs → ps_G → Prop} {g : ps_G}  {r : ps_G} (h : jX2_change_30 g = some r) (hk : Q (.inl none) r) : ps_At mX2_change d 30 [] [] g Q := by
  unfold jX2_change_30 at h
  refine sX2_change_30 ?_
  cases h
  exact ⟨rfl, rfl, hk⟩
noncomputable def fX2_change (g : ps_G) (x0 : Nat) (x1 : Int32) (x2 : Int32) : Option (ps_G) := if x1 < 0 then (jX2_change_30 g) else (Option.bind (q_fI 2 5 g x0) fun v3 => if (v3 ≤ x1) ∨ ((2328 : Int32) ≤ x1) then (jX2_change_30 g) else (Option.bind (q_fR 2 4 g x0) fun v7 => Option.bind (v7) fun a8 => Option.bind (q_wI g a8 x1 (x2 &&& (255 : Int32))) fun g9 => jX2_change_30 g9))
theorem rX2_change {d : Nat} {Q : ps_Rs → ps_G → Prop} {g : ps_G} {x0 : Nat} {x1 : Int32} {x2 : Int32} {r : ps_G} (h : fX2_change g x0 x1 x2 = some r) (hk : Q (.inl none) r) : ps_Ok mX2_change d [.ref x0, .int x1, .int x2] g Q := by
  unfold fX2_change at h
  refine sX2_change_0 ?_
  refine And.intro (fun hc1 => ?_) (fun hc1 => ?_)
  · replace h := q_ifp (hc1) h
    exact ps_weak (pjX2_change_30 h hk) trivial
  · replace h := q_ifn (hc1) h
    replace h := q_be h
    obtain ⟨v3, hv, h⟩ := h
    replace hv := q_fI_e hv
    obtain ⟨_, cv3, dv3⟩ := hv
    have kT10 : (jX2_change_30 g) = some r → ps_At mX2_change d 30 [] [] g Q := fun h => by
      exact ps_weak (pjX2_change_30 h hk) trivial
    refine ⟨⟨some _, rfl⟩, _, _, cv3, dv3, ?_⟩
    refine And.intro (fun hc4 => ?_) (fun hc4 => ?_)
    · exact ps_weak (kT10 (q_ifp (Or.inl hc4) h)) trivial
    · refine And.intro (fun hc5 => ?_) (fun hc5 => ?_)
      · exact ps_weak (kT10 (q_ifp (Or.inr (hc5)) h)) trivial
      · replace h := q_ifn (not_or.mpr ⟨hc4, hc5⟩) h
        replace h := q_be h
        obtain ⟨v7, hv, h⟩ := h
        replace hv := q_fR_e hv
        obtain ⟨_, cv7, dv7⟩ := hv
        replace h := q_be h
        obtain ⟨a8, ea8, h⟩ := h
        subst ea8
        replace h := q_be h
        obtain ⟨g9, hv, h⟩ := h
        replace hv := q_wI_e hv
        obtain ⟨_, _, cg9, pg9, ig9, yg9⟩ := hv
        refine ⟨⟨some _, rfl⟩, _, _, cv7, dv7, _, _, cg9, pg9, ig9, _, yg9, ?_⟩
        exact ps_weak (pjX2_change_30 h hk) trivial
noncomputable def jX8_unfilter_137_51 (g : ps_G) (x0 : Nat) (x1 : Int32) (x2 : Int32) (x3 : Int32) (x4 : Int32) (x5 : Int32) (x6 : Int32) (x7 : Int32) (x8 : Int32) (k0 : Int32) : Option ((Int32 × ps_G) ⊕ (ps_G)) := Option.bind (q_fR 8 12 g x0) fun v21 => Option.bind (v21) fun a22 => Option.bind (q_fR 8 12 g x0) fun v23 => Option.bind (v23) fun a24 => Option.bind (q_ob 2 g a24) fun u25 => Option.bind (fX2_at g a24 (x4 + x6)) fun v26 => Option.bind (q_ob 2 g a22) fun u27 => Option.bind (fX2_change g a22 (x4 + x6) (v26 + (fX11_foretold x5 x7 x8 k0))) fun v28 => some (.inl (x6 + (1 : Int32), v28))
theorem pjX8_unfilter_137_51 {d : Nat} {Q : ps_Rs → ps_G → Prop} {g : ps_G} {x0 : Nat} {x1 : Int32} {x2 : Int32} {x3 : Int32} {x4 : Int32} {x5 : Int32} {x6 : Int32} {x7 : Int32} {x8 : Int32} {k0 : Int32} {x : (Int32 × ps_G) ⊕ (ps_G)} (h : jX8_unfilter_137_51 g x0 x1 x2 x3 x4 x5 x6 x7 x8 k0 = some x) (hh : ∀ s' : Int32 × ps_G, x = .inl s' → ps_At mX8_unfilter (d + 2) 51 [(0, .ref x0), (1, .int x1), (2, .int x2), (3, .int x3), (4, .int x4), (5, .int x5), (6, .int s'.1)] [] s'.2 Q) (he : ∀ r' : ps_G, x = .inr r' → ps_At mX8_unfilter (d + 2) 181 [(0, .ref x0), (1, .int x1), (2, .int x2), (3, .int x3)] [] r' Q) : ps_At mX8_unfilter (d + 2) 137 [(0, .ref x0), (1, .int x1), (2, .int x2), (3, .int x3), (4, .int x4), (5, .int x5), (6, .int x6), (7, .int x7), (8, .int x8)] [.int k0] g Q := by
  unfold jX8_unfilter_137_51 at h
  refine sX8_unfilter_137 ?_
  replace h := q_be h
  obtain ⟨v21, hv, h⟩ := h
  replace hv := q_fR_e hv
  obtain ⟨_, cv21, dv21⟩ := hv
  replace h := q_be h
  obtain ⟨a22, ea22, h⟩ := h
  subst ea22
  replace h := q_be h
  obtain ⟨v23, hv, h⟩ := h
  replace hv := q_fR_e hv
  obtain ⟨_, cv23, dv23⟩ := hv
  replace h := q_be h
  obtain ⟨a24, ea24, h⟩ := h
  subst ea24
  replace h := q_be h
  obtain ⟨u25, hv, h⟩ := h
  replace hv := q_ob_e hv
  obtain ⟨_, cu25⟩ := hv
  replace h := q_be h
  obtain ⟨v26, hv, h⟩ := h
  refine ⟨by decide, ⟨some _, rfl⟩, _, _, cv21, dv21, ⟨some _, rfl⟩, _, _, cv23, dv23, ⟨_, cu25⟩, ?_⟩
  refine rX2_at hv ?_
  refine rX11_foretold rfl ?_
  replace h := q_be h
  obtain ⟨u27, hv, h⟩ := h
  replace hv := q_ob_e hv
  obtain ⟨_, cu27⟩ := hv
  replace h := q_be h
  obtain ⟨v28, hv, h⟩ := h
  refine ⟨⟨_, cu27⟩, ?_⟩
  refine rX2_change hv ?_
  refine ⟨by decide, ?_⟩
  exact ps_weak (hh (x6 + (1 : Int32), v28) (Option.some.inj h).symm) ⟨rfl, rfl, rfl, rfl, rfl, rfl, rfl, trivial⟩
noncomputable def jX8_unfilter_105_51 (g : ps_G) (x0 : Nat) (x1 : Int32) (x2 : Int32) (x3 : Int32) (x4 : Int32) (x5 : Int32) (x6 : Int32) (x7 : Int32) (k0 : Int32) : Option ((Int32 × ps_G) ⊕ (ps_G)) := if (x3 ≤ 0) ∨ (x6 ≤ x1) then (jX8_unfilter_137_51 g x0 x1 x2 x3 x4 x5 x6 x7 k0 (0 : Int32)) else (Option.bind (q_fR 8 12 g x0) fun v29 => Option.bind (v29) fun a30 => Option.bind (q_ob 2 g a30) fun u31 => Option.bind (fX2_at g a30 (((x4 + x6) - x2) - x1)) fun v32 => jX8_unfilter_137_51 g x0 x1 x2 x3 x4 x5 x6 x7 k0 v32)
theorem pjX8_unfilter_105_51 {d : Nat} {Q : ps_Rs → ps_G → Prop} {g : ps_G} {x0 : Nat} {x1 : Int32} {x2 : Int32} {x3 : Int32} {x4 : Int32} {x5 : Int32} {x6 : Int32} {x7 : Int32} {k0 : Int32} {x : (Int32 × ps_G) ⊕ (ps_G)} (h : jX8_unfilter_105_51 g x0 x1 x2 x3 x4 x5 x6 x7 k0 = some x) (hh : ∀ s' : Int32 × ps_G, x = .inl s' → ps_At mX8_unfilter (d + 2) 51 [(0, .ref x0), (1, .int x1), (2, .int x2), (3, .int x3), (4, .int x4), (5, .int x5), (6, .int s'.1)] [] s'.2 Q) (he : ∀ r' : ps_G, x = .inr r' → ps_At mX8_unfilter (d + 2) 181 [(0, .ref x0), (1, .int x1), (2, .int x2), (3, .int x3)] [] r' Q) : ps_At mX8_unfilter (d + 2) 105 [(0, .ref x0), (1, .int x1), (2, .int x2), (3, .int x3), (4, .int x4), (5, .int x5), (6, .int x6), (7, .int x7)] [.int k0] g Q := by
  unfold jX8_unfilter_105_51 at h
  refine sX8_unfilter_105 ?_
  have kT33 : (jX8_unfilter_137_51 g x0 x1 x2 x3 x4 x5 x6 x7 k0 (0 : Int32)) = some x → ps_At mX8_unfilter (d + 2) 136 [(0, .ref x0), (1, .int x1), (2, .int x2), (3, .int x3), (4, .int x4), (5, .int x5), (6, .int x6), (7, .int x7), (8, .int k0)] [] g Q := fun h => by
    refine sX8_unfilter_136 ?_
    exact ps_weak (pjX8_unfilter_137_51 h hh he) ⟨rfl, rfl, rfl, rfl, rfl, rfl, rfl, rfl, rfl, trivial⟩
  refine ⟨by decide, ?_⟩
  refine And.intro (fun hc18 => ?_) (fun hc18 => ?_)
  · exact ps_weak (kT33 (q_ifp (Or.inl hc18) h)) ⟨rfl, rfl, rfl, rfl, rfl, rfl, rfl, rfl, rfl, trivial⟩
  · refine And.intro (fun hc19 => ?_) (fun hc19 => ?_)
    · exact ps_weak (kT33 (q_ifp (Or.inr (hc19)) h)) ⟨rfl, rfl, rfl, rfl, rfl, rfl, rfl, rfl, rfl, trivial⟩
    · replace h := q_ifn (not_or.mpr ⟨hc18, hc19⟩) h
      replace h := q_be h
      obtain ⟨v29, hv, h⟩ := h
      replace hv := q_fR_e hv
      obtain ⟨_, cv29, dv29⟩ := hv
      replace h := q_be h
      obtain ⟨a30, ea30, h⟩ := h
      subst ea30
      replace h := q_be h
      obtain ⟨u31, hv, h⟩ := h
      replace hv := q_ob_e hv
      obtain ⟨_, cu31⟩ := hv
      replace h := q_be h
      obtain ⟨v32, hv, h⟩ := h
      refine ⟨⟨some _, rfl⟩, _, _, cv29, dv29, ⟨_, cu31⟩, ?_⟩
      refine rX2_at hv ?_
      exact ps_weak (pjX8_unfilter_137_51 h hh he) ⟨rfl, rfl, rfl, rfl, rfl, rfl, rfl, rfl, rfl, trivial⟩
noncomputable def jX8_unfilter_81_51 (g : ps_G) (x0 : Nat) (x1 : Int32) (x2 : Int32) (x3 : Int32) (x4 : Int32) (x5 : Int32) (x6 : Int32) (k0 : Int32) : Option ((Int32 × ps_G) ⊕ (ps_G)) := if x3 ≤ 0 then (jX8_unfilter_105_51 g x0 x1 x2 x3 x4 x5 x6 k0 (0 : Int32)) else (Option.bind (q_fR 8 12 g x0) fun v35 => Option.bind (v35) fun a36 => Option.bind (q_ob 2 g a36) fun u37 => Option.bind (fX2_at g a36 ((x4 + x6) - x2)) fun v38 => jX8_unfilter_105_51 g x0 x1 x2 x3 x4 x5 x6 k0 v38)
theorem pjX8_unfilter_81_51 {d : Nat} {Q : ps_Rs → ps_G → Prop} {g : ps_G} {x0 : Nat} {x1 : Int32} {x2 : Int32} {x3 : Int32} {x4 : Int32} {x5 : Int32} {x6 : Int32} {k0 : Int32} {x : (Int32 × ps_G) ⊕ (ps_G)} (h : jX8_unfilter_81_51 g x0 x1 x2 x3 x4 x5 x6 k0 = some x) (hh : ∀ s' : Int32 × ps_G, x = .inl s' → ps_At mX8_unfilter (d + 2) 51 [(0, .ref x0), (1, .int x1), (2, .int x2), (3, .int x3), (4, .int x4), (5, .int x5), (6, .int s'.1)] [] s'.2 Q) (he : ∀ r' : ps_G, x = .inr r' → ps_At mX8_unfilter (d + 2) 181 [(0, .ref x0), (1, .int x1), (2, .int x2), (3, .int x3)] [] r' Q) : ps_At mX8_unfilter (d + 2) 81 [(0, .ref x0), (1, .int x1), (2, .int x2), (3, .int x3), (4, .int x4), (5, .int x5), (6, .int x6)] [.int k0] g Q := by
  unfold jX8_unfilter_81_51 at h
  refine sX8_unfilter_81 ?_
  refine ⟨by decide, ?_⟩
  refine And.intro (fun hc16 => ?_) (fun hc16 => ?_)
  · replace h := q_ifp (hc16) h
    refine sX8_unfilter_104 ?_
    exact ps_weak (pjX8_unfilter_105_51 h hh he) ⟨rfl, rfl, rfl, rfl, rfl, rfl, rfl, rfl, trivial⟩
  · replace h := q_ifn (hc16) h
    replace h := q_be h
    obtain ⟨v35, hv, h⟩ := h
    replace hv := q_fR_e hv
    obtain ⟨_, cv35, dv35⟩ := hv
    replace h := q_be h
    obtain ⟨a36, ea36, h⟩ := h
    subst ea36
    replace h := q_be h
    obtain ⟨u37, hv, h⟩ := h
    replace hv := q_ob_e hv
    obtain ⟨_, cu37⟩ := hv
    replace h := q_be h
    obtain ⟨v38, hv, h⟩ := h
    refine ⟨⟨some _, rfl⟩, _, _, cv35, dv35, ⟨_, cu37⟩, ?_⟩
    refine rX2_at hv ?_
    exact ps_weak (pjX8_unfilter_105_51 h hh he) ⟨rfl, rfl, rfl, rfl, rfl, rfl, rfl, rfl, trivial⟩
noncomputable def bX8_unfilter_51 (x0 : Nat) (x1 : Int32) (x2 : Int32) (x3 : Int32) (x4 : Int32) (x5 : Int32) (x6 : Int32) (g : ps_G) : Option ((Int32 × ps_G) ⊕ (ps_G)) := if x2 ≤ x6 then (some (.inr g)) else (if x6 ≤ x1 then (jX8_unfilter_81_51 g x0 x1 x2 x3 x4 x5 x6 (0 : Int32)) else (Option.bind (q_fR 8 12 g x0) fun v41 => Option.bind (v41) fun a42 => Option.bind (q_ob 2 g a42) fun u43 => Option.bind (fX2_at g a42 ((x4 + x6) - x1)) fun v44 => jX8_unfilter_81_51 g x0 x1 x2 x3 x4 x5 x6 v44))
theorem pbX8_unfilter_51 {d : Nat} {Q : ps_Rs → ps_G → Prop}  {x0 : Nat} {x1 : Int32} {x2 : Int32} {x3 : Int32} {x4 : Int32} {x5 : Int32} {x6 : Int32} {g : ps_G} {x : (Int32 × ps_G) ⊕ (ps_G)} (h : bX8_unfilter_51 x0 x1 x2 x3 x4 x5 x6 g = some x) (hh : ∀ s' : Int32 × ps_G, x = .inl s' → ps_At mX8_unfilter (d + 2) 51 [(0, .ref x0), (1, .int x1), (2, .int x2), (3, .int x3), (4, .int x4), (5, .int x5), (6, .int s'.1)] [] s'.2 Q) (he : ∀ r' : ps_G, x = .inr r' → ps_At mX8_unfilter (d + 2) 181 [(0, .ref x0), (1, .int x1), (2, .int x2), (3, .int x3)] [] r' Q) : ps_At mX8_unfilter (d + 2) 51 [(0, .ref x0), (1, .int x1), (2, .int x2), (3, .int x3), (4, .int x4), (5, .int x5), (6, .int x6)] [] g Q := by
  unfold bX8_unfilter_51 at h
  refine sX8_unfilter_51 ?_
  refine And.intro (fun hc11 => ?_) (fun hc11 => ?_)
  · replace h := q_ifp (hc11) h
    exact ps_weak (he g (Option.some.inj h).symm) ⟨rfl, rfl, rfl, rfl, trivial⟩
  · replace h := q_ifn (hc11) h
    refine And.intro (fun hc14 => ?_) (fun hc14 => ?_)
    · replace h := q_ifp (hc14) h
      refine sX8_unfilter_80 ?_
      exact ps_weak (pjX8_unfilter_81_51 h hh he) ⟨rfl, rfl, rfl, rfl, rfl, rfl, rfl, trivial⟩
    · replace h := q_ifn (hc14) h
      replace h := q_be h
      obtain ⟨v41, hv, h⟩ := h
      replace hv := q_fR_e hv
      obtain ⟨_, cv41, dv41⟩ := hv
      replace h := q_be h
      obtain ⟨a42, ea42, h⟩ := h
      subst ea42
      replace h := q_be h
      obtain ⟨u43, hv, h⟩ := h
      replace hv := q_ob_e hv
      obtain ⟨_, cu43⟩ := hv
      replace h := q_be h
      obtain ⟨v44, hv, h⟩ := h
      refine ⟨⟨some _, rfl⟩, _, _, cv41, dv41, ⟨_, cu43⟩, ?_⟩
      refine rX2_at hv ?_
      exact ps_weak (pjX8_unfilter_81_51 h hh he) ⟨rfl, rfl, rfl, rfl, rfl, rfl, rfl, trivial⟩
noncomputable def bX8_unfilter_16 (x0 : Nat) (x1 : Int32) (x2 : Int32) (x3 : Int32) (g : ps_G) : Option ((Int32 × ps_G) ⊕ ((ps_G) ⊕ (Int32 × ps_G))) := Option.bind (q_fI 8 5 g x0) fun v4 => if v4 ≤ x3 then (some (.inr (.inl g))) else (Option.bind (q_fR 8 12 g x0) fun v6 => Option.bind (v6) fun a7 => Option.bind (q_ob 2 g a7) fun u8 => Option.bind (fX2_at g a7 (x3 * x2)) fun v9 => if v9 ≤ (4 : Int32) then (Option.bind (q_lp (fun s => bX8_unfilter_51 x0 x1 x2 x3 (x3 * x2) v9 s.1 s.2) ((1 : Int32), g)) fun s49 => some (.inl (x3 + (1 : Int32), s49))) else (some (.inr (.inr ((0 : Int32), g)))))
theorem pbX8_unfilter_16 {d : Nat} {Q : ps_Rs → ps_G → Prop}  {x0 : Nat} {x1 : Int32} {x2 : Int32} {x3 : Int32} {g : ps_G} {x : (Int32 × ps_G) ⊕ ((ps_G) ⊕ (Int32 × ps_G))} (h : bX8_unfilter_16 x0 x1 x2 x3 g = some x) (hh : ∀ s' : Int32 × ps_G, x = .inl s' → ps_At mX8_unfilter (d + 2) 16 [(0, .ref x0), (1, .int x1), (2, .int x2), (3, .int s'.1)] [] s'.2 Q) (he : ∀ r' : ps_G, x = .inr (.inl r') → ps_At mX8_unfilter (d + 2) 187 [] [] r' Q) (hr : ∀ v' : Int32 × ps_G, x = .inr (.inr v') → Q (.inl (some (.int v'.1))) v'.2) : ps_At mX8_unfilter (d + 2) 16 [(0, .ref x0), (1, .int x1), (2, .int x2), (3, .int x3)] [] g Q := by
  unfold bX8_unfilter_16 at h
  refine sX8_unfilter_16 ?_
  replace h := q_be h
  obtain ⟨v4, hv, h⟩ := h
  replace hv := q_fI_e hv
  obtain ⟨_, cv4, dv4⟩ := hv
  refine ⟨⟨some _, rfl⟩, _, _, cv4, dv4, ?_⟩
  refine And.intro (fun hc5 => ?_) (fun hc5 => ?_)
  · replace h := q_ifp (hc5) h
    exact ps_weak (he g (Option.some.inj h).symm) trivial
  · replace h := q_ifn (hc5) h
    replace h := q_be h
    obtain ⟨v6, hv, h⟩ := h
    replace hv := q_fR_e hv
    obtain ⟨_, cv6, dv6⟩ := hv
    replace h := q_be h
    obtain ⟨a7, ea7, h⟩ := h
    subst ea7
    replace h := q_be h
    obtain ⟨u8, hv, h⟩ := h
    replace hv := q_ob_e hv
    obtain ⟨_, cu8⟩ := hv
    replace h := q_be h
    obtain ⟨v9, hv, h⟩ := h
    refine ⟨by decide, ⟨some _, rfl⟩, _, _, cv6, dv6, ⟨_, cu8⟩, ?_⟩
    refine rX2_at hv ?_
    refine ⟨by decide, ?_⟩
    refine And.intro (fun hc10 => ?_) (fun hc10 => ?_)
    · replace h := q_ifp (hc10) h
      refine sX8_unfilter_48 ?_
      refine ⟨by decide, ?_⟩
      replace h := q_be h
      obtain ⟨s49, hl, h⟩ := h
      refine ps_weak (q_lp_ok hl (fun s => ps_At mX8_unfilter (d + 2) 51 [(0, .ref x0), (1, .int x1), (2, .int x2), (3, .int x3), (4, .int (x3 * x2)), (5, .int v9), (6, .int s.1)] [] s.2 Q) (fun r => ps_At mX8_unfilter (d + 2) 181 [(0, .ref x0), (1, .int x1), (2, .int x2), (3, .int x3)] [] r Q) (fun s x hb hh he => pbX8_unfilter_51 hb hh he) ?_) ⟨rfl, rfl, rfl, rfl, rfl, rfl, rfl, trivial⟩
      refine (?_ : ps_At mX8_unfilter (d + 2) 181 [(0, .ref x0), (1, .int x1), (2, .int x2), (3, .int x3)] [] s49 Q)
      refine sX8_unfilter_181 ?_
      refine ⟨by decide, ?_⟩
      exact ps_weak (hh (x3 + (1 : Int32), s49) (Option.some.inj h).symm) ⟨rfl, rfl, rfl, rfl, trivial⟩
    · replace h := q_ifn (hc10) h
      exact ⟨rfl, Or.inl rfl, hr ((0 : Int32), g) (Option.some.inj h).symm⟩
noncomputable def fX8_unfilter (g : ps_G) (x0 : Nat) : Option (Int32 × ps_G) := Option.bind (q_ob 8 g x0) fun u1 => Option.bind (fX8_channels g x0) fun v2 => Option.bind (q_fI 8 4 g x0) fun v3 => Option.bind (q_lp (fun s => bX8_unfilter_16 x0 v2 ((1 : Int32) + (v3 * v2)) s.1 s.2) ((0 : Int32), g)) fun s54 => Sum.elim (fun r55 => some ((1 : Int32), r55)) (fun v56 => some v56) s54
theorem rX8_unfilter {d : Nat} {Q : ps_Rs → ps_G → Prop} {g : ps_G} {x0 : Nat} {r : Int32 × ps_G} (h : fX8_unfilter g x0 = some r) (hk : Q (.inl (some (.int r.1))) r.2) : ps_Ok mX8_unfilter (d + 2) [.ref x0] g Q := by
  unfold fX8_unfilter at h
  refine sX8_unfilter_0 ?_
  replace h := q_be h
  obtain ⟨u1, hv, h⟩ := h
  replace hv := q_ob_e hv
  obtain ⟨_, cu1⟩ := hv
  replace h := q_be h
  obtain ⟨v2, hv, h⟩ := h
  refine ⟨⟨some _, rfl⟩, ⟨_, cu1⟩, ?_⟩
  refine rX8_channels hv ?_
  replace h := q_be h
  obtain ⟨v3, hv, h⟩ := h
  replace hv := q_fI_e hv
  obtain ⟨_, cv3, dv3⟩ := hv
  refine ⟨by decide, ⟨some _, rfl⟩, _, _, cv3, dv3, by decide, by decide, ?_⟩
  replace h := q_be h
  obtain ⟨s54, hl, h⟩ := h
  refine ps_weak (q_lp_ok hl (fun s => ps_At mX8_unfilter (d + 2) 16 [(0, .ref x0), (1, .int v2), (2, .int ((1 : Int32) + (v3 * v2))), (3, .int s.1)] [] s.2 Q) (Sum.elim (fun r => ps_At mX8_unfilter (d + 2) 187 [] [] r Q) (fun v => Q (.inl (some (.int v.1))) v.2)) (fun s x hb hh he => pbX8_unfilter_16 hb hh (fun _ e => he _ e) (fun _ e => he _ e)) ?_) ⟨rfl, rfl, rfl, rfl, trivial⟩
  rcases s54 with r55 | v56
  · refine (?_ : ps_At mX8_unfilter (d + 2) 187 [] [] r55 Q)
    refine sX8_unfilter_187 ?_
    cases h
    exact ⟨rfl, Or.inr rfl, hk⟩
  · cases h
    exact hk
noncomputable def bX8_areIndices_12 (g : ps_G) (x0 : Nat) (x1 : Int32) (x2 : Int32) : Option ((Int32) ⊕ ((Unit) ⊕ (Int32))) := Option.bind (q_fI 8 4 g x0) fun v3 => if v3 ≤ x2 then (some (.inr (.inl ()))) else (Option.bind (q_fR 8 12 g x0) fun v5 => Option.bind (v5) fun a6 => Option.bind (q_fI 8 4 g x0) fun v7 => Option.bind (q_ob 2 g a6) fun u8 => Option.bind (fX2_at g a6 (((x1 * ((1 : Int32) + v7)) + (1 : Int32)) + x2)) fun v9 => Option.bind (q_fI 8 8 g x0) fun v10 => if v9 < v10 then (some (.inl (x2 + (1 : Int32)))) else (some (.inr (.inr (0 : Int32)))))
theorem pbX8_areIndices_12 {d : Nat} {Q : ps_Rs → ps_G → Prop} {g : ps_G} {x0 : Nat} {x1 : Int32} {x2 : Int32} {x : (Int32) ⊕ ((Unit) ⊕ (Int32))} (h : bX8_areIndices_12 g x0 x1 x2 = some x) (hh : ∀ s' : Int32, x = .inl s' → ps_At mX8_areIndices (d + 1) 12 [(0, .ref x0), (1, .int x1), (2, .int s')] [] g Q) (he : ∀ r' : Unit, x = .inr (.inl r') → ps_At mX8_areIndices (d + 1) 54 [(0, .ref x0), (1, .int x1)] [] g Q) (hr : ∀ v' : Int32, x = .inr (.inr v') → Q (.inl (some (.int v'))) g) : ps_At mX8_areIndices (d + 1) 12 [(0, .ref x0), (1, .int x1), (2, .int x2)] [] g Q := by
  unfold bX8_areIndices_12 at h
  refine sX8_areIndices_12 ?_
  replace h := q_be h
  obtain ⟨v3, hv, h⟩ := h
  replace hv := q_fI_e hv
  obtain ⟨_, cv3, dv3⟩ := hv
  refine ⟨⟨some _, rfl⟩, _, _, cv3, dv3, ?_⟩
  refine And.intro (fun hc4 => ?_) (fun hc4 => ?_)
  · replace h := q_ifp (hc4) h
    exact ps_weak (he () (Option.some.inj h).symm) ⟨rfl, rfl, trivial⟩
  · replace h := q_ifn (hc4) h
    replace h := q_be h
    obtain ⟨v5, hv, h⟩ := h
    replace hv := q_fR_e hv
    obtain ⟨_, cv5, dv5⟩ := hv
    replace h := q_be h
    obtain ⟨a6, ea6, h⟩ := h
    subst ea6
    replace h := q_be h
    obtain ⟨v7, hv, h⟩ := h
    replace hv := q_fI_e hv
    obtain ⟨_, cv7, dv7⟩ := hv
    replace h := q_be h
    obtain ⟨u8, hv, h⟩ := h
    replace hv := q_ob_e hv
    obtain ⟨_, cu8⟩ := hv
    replace h := q_be h
    obtain ⟨v9, hv, h⟩ := h
    refine ⟨⟨some _, rfl⟩, _, _, cv5, dv5, ⟨some _, rfl⟩, _, _, cv7, dv7, ⟨_, cu8⟩, ?_⟩
    refine rX2_at hv ?_
    replace h := q_be h
    obtain ⟨v10, hv, h⟩ := h
    replace hv := q_fI_e hv
    obtain ⟨_, cv10, dv10⟩ := hv
    refine ⟨⟨some _, rfl⟩, _, _, cv10, dv10, ?_⟩
    refine And.intro (fun hc11 => ?_) (fun hc11 => ?_)
    · replace h := q_ifp (hc11) h
      refine sX8_areIndices_48 ?_
      refine ⟨by decide, ?_⟩
      exact ps_weak (hh (x2 + (1 : Int32)) (Option.some.inj h).symm) ⟨rfl, rfl, rfl, trivial⟩
    · replace h := q_ifn (hc11) h
      exact ⟨rfl, Or.inl rfl, hr (0 : Int32) (Option.some.inj h).symm⟩
noncomputable def bX8_areIndices_2 (g : ps_G) (x0 : Nat) (x1 : Int32) : Option ((Int32) ⊕ ((Unit) ⊕ (Int32))) := Option.bind (q_fI 8 5 g x0) fun v1 => if v1 ≤ x1 then (some (.inr (.inl ()))) else (Option.bind (q_lp (fun s => bX8_areIndices_12 g x0 x1 s) (0 : Int32)) fun s16 => Sum.elim (fun r17 => some (.inl (x1 + (1 : Int32)))) (fun v18 => some (.inr (.inr v18))) s16)
theorem pbX8_areIndices_2 {d : Nat} {Q : ps_Rs → ps_G → Prop} {g : ps_G} {x0 : Nat} {x1 : Int32} {x : (Int32) ⊕ ((Unit) ⊕ (Int32))} (h : bX8_areIndices_2 g x0 x1 = some x) (hh : ∀ s' : Int32, x = .inl s' → ps_At mX8_areIndices (d + 1) 2 [(0, .ref x0), (1, .int s')] [] g Q) (he : ∀ r' : Unit, x = .inr (.inl r') → ps_At mX8_areIndices (d + 1) 60 [] [] g Q) (hr : ∀ v' : Int32, x = .inr (.inr v') → Q (.inl (some (.int v'))) g) : ps_At mX8_areIndices (d + 1) 2 [(0, .ref x0), (1, .int x1)] [] g Q := by
  unfold bX8_areIndices_2 at h
  refine sX8_areIndices_2 ?_
  replace h := q_be h
  obtain ⟨v1, hv, h⟩ := h
  replace hv := q_fI_e hv
  obtain ⟨_, cv1, dv1⟩ := hv
  refine ⟨⟨some _, rfl⟩, _, _, cv1, dv1, ?_⟩
  refine And.intro (fun hc2 => ?_) (fun hc2 => ?_)
  · replace h := q_ifp (hc2) h
    exact ps_weak (he () (Option.some.inj h).symm) trivial
  · replace h := q_ifn (hc2) h
    refine ⟨by decide, ?_⟩
    replace h := q_be h
    obtain ⟨s16, hl, h⟩ := h
    refine ps_weak (q_lp_ok hl (fun s => ps_At mX8_areIndices (d + 1) 12 [(0, .ref x0), (1, .int x1), (2, .int s)] [] g Q) (Sum.elim (fun r => ps_At mX8_areIndices (d + 1) 54 [(0, .ref x0), (1, .int x1)] [] g Q) (fun v => Q (.inl (some (.int v))) g)) (fun s x hb hh he => pbX8_areIndices_12 hb hh (fun _ e => he _ e) (fun _ e => he _ e)) ?_) ⟨rfl, rfl, rfl, trivial⟩
    rcases s16 with r17 | v18
    · refine (?_ : ps_At mX8_areIndices (d + 1) 54 [(0, .ref x0), (1, .int x1)] [] g Q)
      refine sX8_areIndices_54 ?_
      refine ⟨by decide, ?_⟩
      exact ps_weak (hh (x1 + (1 : Int32)) (Option.some.inj h).symm) ⟨rfl, rfl, trivial⟩
    · exact hr _ (Option.some.inj h).symm
noncomputable def fX8_areIndices (g : ps_G) (x0 : Nat) : Option (Int32) := Option.bind (q_lp (fun s => bX8_areIndices_2 g x0 s) (0 : Int32)) fun s21 => Sum.elim (fun r22 => some (1 : Int32)) (fun v23 => some v23) s21
theorem rX8_areIndices {d : Nat} {Q : ps_Rs → ps_G → Prop} {g : ps_G} {x0 : Nat} {r : Int32} (h : fX8_areIndices g x0 = some r) (hk : Q (.inl (some (.int r))) g) : ps_Ok mX8_areIndices (d + 1) [.ref x0] g Q := by
  unfold fX8_areIndices at h
  refine sX8_areIndices_0 ?_
  refine ⟨by decide, ?_⟩
  replace h := q_be h
  obtain ⟨s21, hl, h⟩ := h
  refine ps_weak (q_lp_ok hl (fun s => ps_At mX8_areIndices (d + 1) 2 [(0, .ref x0), (1, .int s)] [] g Q) (Sum.elim (fun r => ps_At mX8_areIndices (d + 1) 60 [] [] g Q) (fun v => Q (.inl (some (.int v))) g)) (fun s x hb hh he => pbX8_areIndices_2 hb hh (fun _ e => he _ e) (fun _ e => he _ e)) ?_) ⟨rfl, rfl, trivial⟩
  rcases s21 with r22 | v23
  · refine (?_ : ps_At mX8_areIndices (d + 1) 60 [] [] g Q)
    refine sX8_areIndices_60 ?_
    cases h
    exact ⟨rfl, Or.inr rfl, hk⟩
  · cases h
    exact hk
noncomputable def jX8_read_97_68 (g : ps_G) : Option ((Int32 × Int32 × Int32 × ps_G) ⊕ ((Int32 × Int32 × ps_G) ⊕ (Int32 × ps_G))) := some (.inr (.inr ((0 : Int32), g)))
theorem pjX8_read_97_68 {d : Nat} {Q : ps_Rs → ps_G → Prop} {g : ps_G}  {x0 : Nat} {x : (Int32 × Int32 × Int32 × ps_G) ⊕ ((Int32 × Int32 × ps_G) ⊕ (Int32 × ps_G))} (h : jX8_read_97_68 g = some x) (hh : ∀ s' : Int32 × Int32 × Int32 × ps_G, x = .inl s' → ps_At mX8_read (d + 5) 68 [(0, .ref x0), (3, .int s'.1), (4, .int s'.2.1), (5, .int s'.2.2.1)] [] s'.2.2.2 Q) (he : ∀ r' : Int32 × Int32 × ps_G, x = .inr (.inl r') → ps_At mX8_read (d + 5) 135 [(0, .ref x0), (3, .int r'.1), (4, .int r'.2.1)] [] r'.2.2 Q) (hr : ∀ v' : Int32 × ps_G, x = .inr (.inr v') → Q (.inl (some (.int v'.1))) v'.2) : ps_At mX8_read (d + 5) 97 [] [] g Q := by
  unfold jX8_read_97_68 at h
  refine sX8_read_97 ?_
  exact ⟨rfl, Or.inl rfl, hr ((0 : Int32), g) (Option.some.inj h).symm⟩
noncomputable def bX8_read_68 (x0 : Nat) (x3 : Int32) (x4 : Int32) (x5 : Int32) (g : ps_G) : Option ((Int32 × Int32 × Int32 × ps_G) ⊕ ((Int32 × Int32 × ps_G) ⊕ (Int32 × ps_G))) := if ((8000 : Int32) ≤ x5) ∨ (0 ≤ x4) then (some (.inr (.inl (x3, x4, g)))) else (Option.bind (q_ob 8 g x0) fun u17 => q_b2 (fX8_isChunk g x0 x3) fun v18 g19 => if v18 = 0 then (jX8_read_97_68 g19) else (Option.bind (q_ob 8 g19 x0) fun u21 => q_b2 (fX8_takeChunk g19 x0 x3) fun v22 g23 => if ¬ v22 = 0 then (Option.bind (q_ob 8 g23 x0) fun u25 => Option.bind (fX8_fourAt g23 x0 (x3 + (4 : Int32))) fun v26 => Option.bind (q_ob 8 g23 x0) fun u30 => Option.bind (fX8_fourAt g23 x0 x3) fun v31 => some (.inl (x3 + ((12 : Int32) + v31), (if ¬ v26 = (1229278788 : Int32) then (-1 : Int32) else x3), x5 + (1 : Int32), g23))) else (jX8_read_97_68 g23)))
theorem pbX8_read_68 {d : Nat} {Q : ps_Rs → ps_G → Prop}  {x0 : Nat} {x3 : Int32} {x4 : Int32} {x5 : Int32} {g : ps_G} {x : (Int32 × Int32 × Int32 × ps_G) ⊕ ((Int32 × Int32 × ps_G) ⊕ (Int32 × ps_G))} (h : bX8_read_68 x0 x3 x4 x5 g = some x) (hh : ∀ s' : Int32 × Int32 × Int32 × ps_G, x = .inl s' → ps_At mX8_read (d + 5) 68 [(0, .ref x0), (3, .int s'.1), (4, .int s'.2.1), (5, .int s'.2.2.1)] [] s'.2.2.2 Q) (he : ∀ r' : Int32 × Int32 × ps_G, x = .inr (.inl r') → ps_At mX8_read (d + 5) 135 [(0, .ref x0), (3, .int r'.1), (4, .int r'.2.1)] [] r'.2.2 Q) (hr : ∀ v' : Int32 × ps_G, x = .inr (.inr v') → Q (.inl (some (.int v'.1))) v'.2) : ps_At mX8_read (d + 5) 68 [(0, .ref x0), (3, .int x3), (4, .int x4), (5, .int x5)] [] g Q := by
  unfold bX8_read_68 at h
  refine sX8_read_68 ?_
  have kT36 : (some (.inr (.inl (x3, x4, g)))) = some x → ps_At mX8_read (d + 5) 135 [(0, .ref x0), (3, .int x3), (4, .int x4)] [] g Q := fun h => by
    exact ps_weak (he (x3, x4, g) (Option.some.inj h).symm) ⟨rfl, rfl, rfl, trivial⟩
  refine And.intro (fun hc15 => ?_) (fun hc15 => ?_)
  · exact ps_weak (kT36 (q_ifp (Or.inl hc15) h)) ⟨rfl, rfl, rfl, trivial⟩
  · refine And.intro (fun hc16 => ?_) (fun hc16 => ?_)
    · exact ps_weak (kT36 (q_ifp (Or.inr (hc16)) h)) ⟨rfl, rfl, rfl, trivial⟩
    · replace h := q_ifn (not_or.mpr ⟨hc15, hc16⟩) h
      replace h := q_be h
      obtain ⟨u17, hv, h⟩ := h
      replace hv := q_ob_e hv
      obtain ⟨_, cu17⟩ := hv
      replace h := q_b2_e h
      obtain ⟨v18, g19, hv, h⟩ := h
      refine ⟨⟨some _, rfl⟩, ⟨_, cu17⟩, ?_⟩
      refine rX8_isChunk hv ?_
      refine And.intro (fun hc20 => ?_) (fun hc20 => ?_)
      · replace h := q_ifp (hc20) h
        exact ps_weak (pjX8_read_97_68 h hh he hr) trivial
      · replace h := q_ifn (hc20) h
        replace h := q_be h
        obtain ⟨u21, hv, h⟩ := h
        replace hv := q_ob_e hv
        obtain ⟨_, cu21⟩ := hv
        replace h := q_b2_e h
        obtain ⟨v22, g23, hv, h⟩ := h
        refine ⟨⟨some _, rfl⟩, ⟨_, cu21⟩, ?_⟩
        refine rX8_takeChunk hv ?_
        refine And.intro (fun hc24 => ?_) (fun hc24 => ?_)
        · replace h := q_ifp (hc24) h
          refine sX8_read_99 ?_
          replace h := q_be h
          obtain ⟨u25, hv, h⟩ := h
          replace hv := q_ob_e hv
          obtain ⟨_, cu25⟩ := hv
          replace h := q_be h
          obtain ⟨v26, hv, h⟩ := h
          refine ⟨⟨some _, rfl⟩, ⟨_, cu25⟩, ?_⟩
          refine rX8_fourAt hv ?_
          have kJ29 : ∀ w28 : Int32, w28 = (if ¬ v26 = (1229278788 : Int32) then (-1 : Int32) else x3) → ps_At mX8_read (d + 5) 116 [(0, .ref x0), (3, .int x3), (5, .int x5)] [.int w28] g23 Q := by
            rintro _ rfl
            refine sX8_read_116 ?_
            replace h := q_be h
            obtain ⟨u30, hv, h⟩ := h
            replace hv := q_ob_e hv
            obtain ⟨_, cu30⟩ := hv
            replace h := q_be h
            obtain ⟨v31, hv, h⟩ := h
            refine ⟨by decide, ⟨some _, rfl⟩, ⟨_, cu30⟩, ?_⟩
            refine rX8_fourAt hv ?_
            refine ⟨by decide, by decide, ?_⟩
            exact ps_weak (hh (x3 + ((12 : Int32) + v31), (if ¬ v26 = (1229278788 : Int32) then (-1 : Int32) else x3), x5 + (1 : Int32), g23) (Option.some.inj h).symm) ⟨rfl, rfl, rfl, rfl, trivial⟩
          refine And.intro (fun hc27 => ?_) (fun hc27 => ?_)
          · refine sX8_read_115 ?_
            exact ps_weak (kJ29 _ (if_pos (hc27)).symm) ⟨rfl, rfl, rfl, trivial⟩
          · exact ps_weak (kJ29 _ (if_neg (hc27)).symm) ⟨rfl, rfl, rfl, trivial⟩
        · replace h := q_ifn (hc24) h
          exact ps_weak (pjX8_read_97_68 h hh he hr) trivial
noncomputable def jX8_read_172 (g : ps_G) (x0 : Nat) (x4 : Int32) : Option (Int32 × ps_G) := Option.bind (q_ob 8 g x0) fun u44 => q_b2 (fX8_fails g x0 (4 : Int32) x4) fun v45 g46 => Option.bind (q_bl v45) fun v47 => some (v47, g46)
theorem pjX8_read_172 {d : Nat} {Q : ps_Rs → ps_G → Prop} {g : ps_G} {x0 : Nat} {x4 : Int32} {r : Int32 × ps_G} (h : jX8_read_172 g x0 x4 = some r) (hk : Q (.inl (some (.int r.1))) r.2) : ps_At mX8_read (d + 5) 172 [(0, .ref x0), (4, .int x4)] [] g Q := by
  unfold jX8_read_172 at h
  refine sX8_read_172 ?_
  replace h := q_be h
  obtain ⟨u44, hv, h⟩ := h
  replace hv := q_ob_e hv
  obtain ⟨_, cu44⟩ := hv
  replace h := q_b2_e h
  obtain ⟨v45, g46, hv, h⟩ := h
  refine ⟨⟨some _, rfl⟩, ⟨_, cu44⟩, ?_⟩
  refine rX8_fails hv ?_
  replace h := q_be h
  obtain ⟨v47, hv, h⟩ := h
  replace hv := q_bl_e hv
  obtain ⟨zv47, rfl⟩ := hv
  cases h
  exact ⟨rfl, zv47, hk⟩
noncomputable def jX8_read_217 (g : ps_G) (x0 : Nat) : Option (Int32 × ps_G) := Option.bind (q_fI 8 11 g x0) fun v60 => Option.bind (q_ob 8 g x0) fun u61 => q_b2 (fX8_fails g x0 (5 : Int32) v60) fun v62 g63 => Option.bind (q_bl v62) fun v64 => some (v64, g63)
theorem pjX8_read_217 {d : Nat} {Q : ps_Rs → ps_G → Prop} {g : ps_G} {x0 : Nat} {r : Int32 × ps_G} (h : jX8_read_217 g x0 = some r) (hk : Q (.inl (some (.int r.1))) r.2) : ps_At mX8_read (d + 5) 217 [(0, .ref x0)] [] g Q := by
  unfold jX8_read_217 at h
  refine sX8_read_217 ?_
  replace h := q_be h
  obtain ⟨v60, hv, h⟩ := h
  replace hv := q_fI_e hv
  obtain ⟨_, cv60, dv60⟩ := hv
  replace h := q_be h
  obtain ⟨u61, hv, h⟩ := h
  replace hv := q_ob_e hv
  obtain ⟨_, cu61⟩ := hv
  replace h := q_b2_e h
  obtain ⟨v62, g63, hv, h⟩ := h
  refine ⟨⟨some _, rfl⟩, ⟨some _, rfl⟩, _, _, cv60, dv60, ⟨_, cu61⟩, ?_⟩
  refine rX8_fails hv ?_
  replace h := q_be h
  obtain ⟨v64, hv, h⟩ := h
  replace hv := q_bl_e hv
  obtain ⟨zv64, rfl⟩ := hv
  cases h
  exact ⟨rfl, zv64, hk⟩
noncomputable def jX8_read_260 (g : ps_G) (k0 : Int32) : Option (Int32 × ps_G) := Option.bind (q_bl k0) fun v71 => some (v71, g)
theorem pjX8_read_260 {d : Nat} {Q : ps_Rs → ps_G → Prop} {g : ps_G} {k0 : Int32} {r : Int32 × ps_G} (h : jX8_read_260 g k0 = some r) (hk : Q (.inl (some (.int r.1))) r.2) : ps_At mX8_read (d + 5) 260 [] [.int k0] g Q := by
  unfold jX8_read_260 at h
  refine sX8_read_260 ?_
  replace h := q_be h
  obtain ⟨v71, hv, h⟩ := h
  replace hv := q_bl_e hv
  obtain ⟨zv71, rfl⟩ := hv
  cases h
  exact ⟨rfl, zv71, hk⟩
noncomputable def jX8_read_255 (g : ps_G) : Option (Int32 × ps_G) := jX8_read_260 g (1 : Int32)
theorem pjX8_read_255 {d : Nat} {Q : ps_Rs → ps_G → Prop} {g : ps_G}  {r : Int32 × ps_G} (h : jX8_read_255 g = some r) (hk : Q (.inl (some (.int r.1))) r.2) : ps_At mX8_read (d + 5) 255 [] [] g Q := by
  unfold jX8_read_255 at h
  refine sX8_read_255 ?_
  exact ps_weak (pjX8_read_260 h hk) trivial
noncomputable def jX8_read_180 (g : ps_G) (x0 : Nat) : Option (Int32 × ps_G) := Option.bind (q_fI 8 5 g x0) fun v50 => Option.bind (q_fI 8 4 g x0) fun v51 => Option.bind (q_ob 8 g x0) fun u52 => Option.bind (fX8_channels g x0) fun v53 => Option.bind (q_fR 8 12 g x0) fun v54 => Option.bind (v54) fun a55 => Option.bind (q_ob 2 g a55) fun u56 => q_b2 (fX2_inflate g a55 (v50 * ((1 : Int32) + (v51 * v53)))) fun v57 g58 => if v57 = 0 then (jX8_read_217 g58 x0) else (Option.bind (q_ob 8 g58 x0) fun u65 => q_b2 (fX8_unfilter g58 x0) fun v66 g67 => if ¬ v66 = 0 then (Option.bind (q_fI 8 6 g67 x0) fun v69 => if ¬ v69 = (3 : Int32) then (jX8_read_255 g67) else (Option.bind (q_ob 8 g67 x0) fun u72 => Option.bind (fX8_areIndices g67 x0) fun v73 => if ¬ v73 = 0 then (jX8_read_255 g67) else (Option.bind (q_fI 8 11 g67 x0) fun v75 => Option.bind (q_ob 8 g67 x0) fun u76 => q_b2 (fX8_fails g67 x0 (6 : Int32) v75) fun v77 g78 => if v77 = 0 then (jX8_read_260 g78 (0 : Int32)) else (jX8_read_255 g78)))) else (jX8_read_217 g67 x0))
theorem pjX8_read_180 {d : Nat} {Q : ps_Rs → ps_G → Prop} {g : ps_G} {x0 : Nat} {r : Int32 × ps_G} (h : jX8_read_180 g x0 = some r) (hk : Q (.inl (some (.int r.1))) r.2) : ps_At mX8_read (d + 5) 180 [(0, .ref x0)] [] g Q := by
  unfold jX8_read_180 at h
  refine sX8_read_180 ?_
  replace h := q_be h
  obtain ⟨v50, hv, h⟩ := h
  replace hv := q_fI_e hv
  obtain ⟨_, cv50, dv50⟩ := hv
  replace h := q_be h
  obtain ⟨v51, hv, h⟩ := h
  replace hv := q_fI_e hv
  obtain ⟨_, cv51, dv51⟩ := hv
  replace h := q_be h
  obtain ⟨u52, hv, h⟩ := h
  replace hv := q_ob_e hv
  obtain ⟨_, cu52⟩ := hv
  replace h := q_be h
  obtain ⟨v53, hv, h⟩ := h
  refine ⟨⟨some _, rfl⟩, _, _, cv50, dv50, ⟨some _, rfl⟩, _, _, cv51, dv51, ⟨some _, rfl⟩, ⟨_, cu52⟩, ?_⟩
  refine rX8_channels hv ?_
  replace h := q_be h
  obtain ⟨v54, hv, h⟩ := h
  replace hv := q_fR_e hv
  obtain ⟨_, cv54, dv54⟩ := hv
  replace h := q_be h
  obtain ⟨a55, ea55, h⟩ := h
  subst ea55
  replace h := q_be h
  obtain ⟨u56, hv, h⟩ := h
  replace hv := q_ob_e hv
  obtain ⟨_, cu56⟩ := hv
  replace h := q_b2_e h
  obtain ⟨v57, g58, hv, h⟩ := h
  refine ⟨by decide, ⟨some _, rfl⟩, _, _, cv54, dv54, ⟨_, cu56⟩, ?_⟩
  refine rX2_inflate hv ?_
  refine And.intro (fun hc59 => ?_) (fun hc59 => ?_)
  · replace h := q_ifp (hc59) h
    exact ps_weak (pjX8_read_217 h hk) ⟨rfl, trivial⟩
  · replace h := q_ifn (hc59) h
    replace h := q_be h
    obtain ⟨u65, hv, h⟩ := h
    replace hv := q_ob_e hv
    obtain ⟨_, cu65⟩ := hv
    replace h := q_b2_e h
    obtain ⟨v66, g67, hv, h⟩ := h
    refine ⟨⟨some _, rfl⟩, ⟨_, cu65⟩, ?_⟩
    refine rX8_unfilter hv ?_
    refine And.intro (fun hc68 => ?_) (fun hc68 => ?_)
    · replace h := q_ifp (hc68) h
      refine sX8_read_227 ?_
      replace h := q_be h
      obtain ⟨v69, hv, h⟩ := h
      replace hv := q_fI_e hv
      obtain ⟨_, cv69, dv69⟩ := hv
      refine ⟨⟨some _, rfl⟩, _, _, cv69, dv69, ?_⟩
      refine And.intro (fun hc70 => ?_) (fun hc70 => ?_)
      · replace h := q_ifp (hc70) h
        exact ps_weak (pjX8_read_255 h hk) trivial
      · replace h := q_ifn (hc70) h
        replace h := q_be h
        obtain ⟨u72, hv, h⟩ := h
        replace hv := q_ob_e hv
        obtain ⟨_, cu72⟩ := hv
        replace h := q_be h
        obtain ⟨v73, hv, h⟩ := h
        refine ⟨⟨some _, rfl⟩, ⟨_, cu72⟩, ?_⟩
        refine rX8_areIndices hv ?_
        refine And.intro (fun hc74 => ?_) (fun hc74 => ?_)
        · replace h := q_ifp (hc74) h
          exact ps_weak (pjX8_read_255 h hk) trivial
        · replace h := q_ifn (hc74) h
          replace h := q_be h
          obtain ⟨v75, hv, h⟩ := h
          replace hv := q_fI_e hv
          obtain ⟨_, cv75, dv75⟩ := hv
          replace h := q_be h
          obtain ⟨u76, hv, h⟩ := h
          replace hv := q_ob_e hv
          obtain ⟨_, cu76⟩ := hv
          replace h := q_b2_e h
          obtain ⟨v77, g78, hv, h⟩ := h
          refine ⟨⟨some _, rfl⟩, ⟨some _, rfl⟩, _, _, cv75, dv75, ⟨_, cu76⟩, ?_⟩
          refine rX8_fails hv ?_
          refine And.intro (fun hc79 => ?_) (fun hc79 => ?_)
          · replace h := q_ifp (hc79) h
            refine sX8_read_259 ?_
            exact ps_weak (pjX8_read_260 h hk) trivial
          · replace h := q_ifn (hc79) h
            exact ps_weak (pjX8_read_255 h hk) trivial
    · replace h := q_ifn (hc68) h
      exact ps_weak (pjX8_read_217 h hk) ⟨rfl, trivial⟩
noncomputable def jX8_read_135 (g : ps_G) (x0 : Nat) (x3 : Int32) (x4 : Int32) : Option (Int32 × ps_G) := Option.bind (q_fI 8 3 g x0) fun v40 => if x3 = v40 then (Option.bind (q_fI 8 11 g x0) fun v42 => if v42 < 0 then (jX8_read_172 g x0 x4) else (Option.bind (q_fI 8 6 g x0) fun v48 => if ¬ v48 = (3 : Int32) then (jX8_read_180 g x0) else (Option.bind (q_fI 8 8 g x0) fun v90 => if 0 < v90 then (jX8_read_180 g x0) else (jX8_read_172 g x0 x4)))) else (Option.bind (q_ob 8 g x0) fun u98 => q_b2 (fX8_fails g x0 (1 : Int32) x3) fun v99 g100 => Option.bind (q_bl v99) fun v101 => some (v101, g100))
theorem pjX8_read_135 {d : Nat} {Q : ps_Rs → ps_G → Prop} {g : ps_G} {x0 : Nat} {x3 : Int32} {x4 : Int32} {r : Int32 × ps_G} (h : jX8_read_135 g x0 x3 x4 = some r) (hk : Q (.inl (some (.int r.1))) r.2) : ps_At mX8_read (d + 5) 135 [(0, .ref x0), (3, .int x3), (4, .int x4)] [] g Q := by
  unfold jX8_read_135 at h
  refine sX8_read_135 ?_
  replace h := q_be h
  obtain ⟨v40, hv, h⟩ := h
  replace hv := q_fI_e hv
  obtain ⟨_, cv40, dv40⟩ := hv
  refine ⟨⟨some _, rfl⟩, _, _, cv40, dv40, ?_⟩
  refine And.intro (fun hc41 => ?_) (fun hc41 => ?_)
  · replace h := q_ifp (hc41) h
    refine sX8_read_150 ?_
    replace h := q_be h
    obtain ⟨v42, hv, h⟩ := h
    replace hv := q_fI_e hv
    obtain ⟨_, cv42, dv42⟩ := hv
    refine ⟨⟨some _, rfl⟩, _, _, cv42, dv42, ?_⟩
    refine And.intro (fun hc43 => ?_) (fun hc43 => ?_)
    · replace h := q_ifp (hc43) h
      exact ps_weak (pjX8_read_172 h hk) ⟨rfl, rfl, trivial⟩
    · replace h := q_ifn (hc43) h
      replace h := q_be h
      obtain ⟨v48, hv, h⟩ := h
      replace hv := q_fI_e hv
      obtain ⟨_, cv48, dv48⟩ := hv
      refine ⟨⟨some _, rfl⟩, _, _, cv48, dv48, ?_⟩
      refine And.intro (fun hc49 => ?_) (fun hc49 => ?_)
      · replace h := q_ifp (hc49) h
        exact ps_weak (pjX8_read_180 h hk) ⟨rfl, trivial⟩
      · replace h := q_ifn (hc49) h
        replace h := q_be h
        obtain ⟨v90, hv, h⟩ := h
        replace hv := q_fI_e hv
        obtain ⟨_, cv90, dv90⟩ := hv
        refine ⟨⟨some _, rfl⟩, _, _, cv90, dv90, ?_⟩
        refine And.intro (fun hc91 => ?_) (fun hc91 => ?_)
        · replace h := q_ifp (hc91) h
          exact ps_weak (pjX8_read_180 h hk) ⟨rfl, trivial⟩
        · replace h := q_ifn (hc91) h
          exact ps_weak (pjX8_read_172 h hk) ⟨rfl, rfl, trivial⟩
  · replace h := q_ifn (hc41) h
    replace h := q_be h
    obtain ⟨u98, hv, h⟩ := h
    replace hv := q_ob_e hv
    obtain ⟨_, cu98⟩ := hv
    replace h := q_b2_e h
    obtain ⟨v99, g100, hv, h⟩ := h
    refine ⟨⟨some _, rfl⟩, ⟨_, cu98⟩, ?_⟩
    refine rX8_fails hv ?_
    replace h := q_be h
    obtain ⟨v101, hv, h⟩ := h
    replace hv := q_bl_e hv
    obtain ⟨zv101, rfl⟩ := hv
    cases h
    exact ⟨rfl, zv101, hk⟩
noncomputable def fX8_read (g : ps_G) (x0 : Nat) (x1 : Nat) (x2 : Int32) : Option (Int32 × ps_G) := Option.bind (q_sR 8 2 g x0 (some x1)) fun g1 => Option.bind (q_len g1 x1) fun v2 => Option.bind (q_sI 8 3 g1 x0 (fJ9_min_7cf53 x2 v2)) fun g3 => Option.bind (q_sI 8 6 g3 x0 (-1 : Int32)) fun g4 => Option.bind (q_sI 8 8 g4 x0 (0 : Int32)) fun g5 => Option.bind (q_sI 8 10 g5 x0 (0 : Int32)) fun g6 => Option.bind (q_sI 8 11 g6 x0 (-1 : Int32)) fun g7 => Option.bind (q_fR 8 12 g7 x0) fun v8 => Option.bind (v8) fun a9 => Option.bind (q_sI 2 1 g7 a9 (0 : Int32)) fun g10 => Option.bind (q_ob 8 g10 x0) fun u11 => Option.bind (fX8_isSigned g10 x0) fun v12 => if ¬ v12 = 0 then (Option.bind (q_len g10 1) fun v14 => Option.bind (q_lp (fun s => bX8_read_68 x0 s.1 s.2.1 s.2.2.1 s.2.2.2) (v14, (-1 : Int32), (0 : Int32), g10)) fun s38 => Sum.elim (fun r39 => jX8_read_135 r39.2.2 x0 r39.1 r39.2.1) (fun v104 => some v104) s38) else (Option.bind (q_ob 8 g10 x0) fun u105 => q_b2 (fX8_fails g10 x0 (1 : Int32) (0 : Int32)) fun v106 g107 => Option.bind (q_bl v106) fun v108 => some (v108, g107))
theorem rX8_read {d : Nat} {Q : ps_Rs → ps_G → Prop} {g : ps_G} {x0 : Nat} {x1 : Nat} {x2 : Int32} {r : Int32 × ps_G} (h : fX8_read g x0 x1 x2 = some r) (hk : Q (.inl (some (.int r.1))) r.2) : ps_Ok mX8_read (d + 5) [.ref x0, .ref x1, .int x2] g Q := by
  unfold fX8_read at h
  refine sX8_read_0 ?_
  replace h := q_be h
  obtain ⟨g1, hv, h⟩ := h
  replace hv := q_sR_e hv
  obtain ⟨_, cg1, dg1, yg1⟩ := hv
  replace h := q_be h
  obtain ⟨v2, hv, h⟩ := h
  replace hv := q_len_e hv
  obtain ⟨_, _, cv2, qv2, yv2⟩ := hv
  refine ⟨⟨some _, rfl⟩, ⟨some _, rfl⟩, _, cg1, dg1, rfl, rfl, _, yg1, ⟨some _, rfl⟩, ⟨some _, rfl⟩, _, _, cv2, qv2, _, yv2, ?_⟩
  refine rJ9_min_7cf53 rfl ?_
  replace h := q_be h
  obtain ⟨g3, hv, h⟩ := h
  replace hv := q_sI_e hv
  obtain ⟨_, cg3, dg3, yg3⟩ := hv
  replace h := q_be h
  obtain ⟨g4, hv, h⟩ := h
  replace hv := q_sI_e hv
  obtain ⟨_, cg4, dg4, yg4⟩ := hv
  replace h := q_be h
  obtain ⟨g5, hv, h⟩ := h
  replace hv := q_sI_e hv
  obtain ⟨_, cg5, dg5, yg5⟩ := hv
  replace h := q_be h
  obtain ⟨g6, hv, h⟩ := h
  replace hv := q_sI_e hv
  obtain ⟨_, cg6, dg6, yg6⟩ := hv
  replace h := q_be h
  obtain ⟨g7, hv, h⟩ := h
  replace hv := q_sI_e hv
  obtain ⟨_, cg7, dg7, yg7⟩ := hv
  replace h := q_be h
  obtain ⟨v8, hv, h⟩ := h
  replace hv := q_fR_e hv
  obtain ⟨_, cv8, dv8⟩ := hv
  replace h := q_be h
  obtain ⟨a9, ea9, h⟩ := h
  subst ea9
  refine ⟨_, cg3, dg3, rfl, rfl, _, yg3, ⟨some _, rfl⟩, _, cg4, dg4, rfl, rfl, _, yg4, ⟨some _, rfl⟩, _, cg5, dg5, rfl, rfl, _, yg5, ⟨some _, rfl⟩, _, cg6, dg6, rfl, rfl, _, yg6, ⟨some _, rfl⟩, _, cg7, dg7, rfl, rfl, _, yg7, ⟨some _, rfl⟩, _, _, cv8, dv8, ?_⟩
  replace h := q_be h
  obtain ⟨g10, hv, h⟩ := h
  replace hv := q_sI_e hv
  obtain ⟨_, cg10, dg10, yg10⟩ := hv
  replace h := q_be h
  obtain ⟨u11, hv, h⟩ := h
  replace hv := q_ob_e hv
  obtain ⟨_, cu11⟩ := hv
  replace h := q_be h
  obtain ⟨v12, hv, h⟩ := h
  refine ⟨_, cg10, dg10, rfl, rfl, _, yg10, ⟨some _, rfl⟩, ⟨_, cu11⟩, ?_⟩
  refine rX8_isSigned hv ?_
  refine And.intro (fun hc13 => ?_) (fun hc13 => ?_)
  · replace h := q_ifp (hc13) h
    refine sX8_read_57 ?_
    replace h := q_be h
    obtain ⟨v14, hv, h⟩ := h
    replace hv := q_len_e hv
    obtain ⟨_, _, cv14, qv14, yv14⟩ := hv
    refine ⟨_, _, cv14, qv14, _, yv14, by decide, by decide, by decide, ?_⟩
    replace h := q_be h
    obtain ⟨s38, hl, h⟩ := h
    refine ps_weak (q_lp_ok hl (fun s => ps_At mX8_read (d + 5) 68 [(0, .ref x0), (3, .int s.1), (4, .int s.2.1), (5, .int s.2.2.1)] [] s.2.2.2 Q) (Sum.elim (fun r => ps_At mX8_read (d + 5) 135 [(0, .ref x0), (3, .int r.1), (4, .int r.2.1)] [] r.2.2 Q) (fun v => Q (.inl (some (.int v.1))) v.2)) (fun s x hb hh he => pbX8_read_68 hb hh (fun _ e => he _ e) (fun _ e => he _ e)) ?_) ⟨rfl, rfl, rfl, rfl, trivial⟩
    rcases s38 with r39 | v104
    · refine (?_ : ps_At mX8_read (d + 5) 135 [(0, .ref x0), (3, .int r39.1), (4, .int r39.2.1)] [] r39.2.2 Q)
      exact ps_weak (pjX8_read_135 h hk) ⟨rfl, rfl, rfl, trivial⟩
    · cases h
      exact hk
  · replace h := q_ifn (hc13) h
    replace h := q_be h
    obtain ⟨u105, hv, h⟩ := h
    replace hv := q_ob_e hv
    obtain ⟨_, cu105⟩ := hv
    replace h := q_b2_e h
    obtain ⟨v106, g107, hv, h⟩ := h
    refine ⟨⟨some _, rfl⟩, ⟨_, cu105⟩, ?_⟩
    refine rX8_fails hv ?_
    replace h := q_be h
    obtain ⟨v108, hv, h⟩ := h
    replace hv := q_bl_e hv
    obtain ⟨zv108, rfl⟩ := hv
    cases h
    exact ⟨rfl, zv108, hk⟩
noncomputable def jX8_colourAt_142 (g : ps_G) (x0 : Nat) (x5 : Int32) (k0 : Int32) : Option (Int32) := Option.bind (q_fR 8 7 g x0) fun v23 => Option.bind (v23) fun a24 => Option.bind (q_aI g a24 x5) fun v25 => some ((q_shl k0 (24 : Int32)) ||| v25)
theorem pjX8_colourAt_142 {d : Nat} {Q : ps_Rs → ps_G → Prop} {g : ps_G} {x0 : Nat} {x5 : Int32} {k0 : Int32} {r : Int32} (h : jX8_colourAt_142 g x0 x5 k0 = some r) (hk : Q (.inl (some (.int r))) g) : ps_At mX8_colourAt (d + 1) 142 [(0, .ref x0), (5, .int x5)] [.int k0] g Q := by
  unfold jX8_colourAt_142 at h
  refine sX8_colourAt_142 ?_
  replace h := q_be h
  obtain ⟨v23, hv, h⟩ := h
  replace hv := q_fR_e hv
  obtain ⟨_, cv23, dv23⟩ := hv
  replace h := q_be h
  obtain ⟨a24, ea24, h⟩ := h
  subst ea24
  replace h := q_be h
  obtain ⟨v25, hv, h⟩ := h
  replace hv := q_aI_e hv
  obtain ⟨_, _, cv25, iv25, yv25⟩ := hv
  cases h
  exact ⟨⟨some _, rfl⟩, _, _, cv23, dv23, _, _, cv25, iv25, _, yv25, rfl, hk⟩
noncomputable def fX8_colourAt (g : ps_G) (x0 : Nat) (x1 : Int32) (x2 : Int32) : Option (Int32) := Option.bind (q_ob 8 g x0) fun u1 => Option.bind (fX8_channels g x0) fun v2 => Option.bind (q_fI 8 4 g x0) fun v3 => Option.bind (q_fR 8 12 g x0) fun v4 => Option.bind (v4) fun a5 => Option.bind (q_ob 2 g a5) fun u6 => Option.bind (fX2_at g a5 (((x2 * ((1 : Int32) + (v3 * v2))) + (1 : Int32)) + (x1 * v2))) fun v7 => Option.bind (q_fI 8 6 g x0) fun v8 => if v8 = 0 then (some (fX11_pack (255 : Int32) (v7 &&& (255 : Int32)) (v7 &&& (255 : Int32)) (v7 &&& (255 : Int32)))) else (if v8 = 2 then (Option.bind (q_fR 8 12 g x0) fun v11 => Option.bind (v11) fun a12 => Option.bind (q_ob 2 g a12) fun u13 => Option.bind (fX2_at g a12 ((((x2 * ((1 : Int32) + (v3 * v2))) + (1 : Int32)) + (x1 * v2)) + (1 : Int32))) fun v14 => Option.bind (q_fR 8 12 g x0) fun v15 => Option.bind (v15) fun a16 => Option.bind (q_ob 2 g a16) fun u17 => Option.bind (fX2_at g a16 ((((x2 * ((1 : Int32) + (v3 * v2))) + (1 : Int32)) + (x1 * v2)) + (2 : Int32))) fun v18 => some (fX11_pack (255 : Int32) (v7 &&& (255 : Int32)) v14 v18)) else (if v8 = 3 then (Option.bind (q_fI 8 10 g x0) fun v20 => if v20 ≤ (v7 &&& (255 : Int32)) then (jX8_colourAt_142 g x0 (v7 &&& (255 : Int32)) (255 : Int32)) else (Option.bind (q_fR 8 9 g x0) fun v26 => Option.bind (v26) fun a27 => Option.bind (q_aI g a27 (v7 &&& (255 : Int32))) fun v28 => jX8_colourAt_142 g x0 (v7 &&& (255 : Int32)) v28)) else (if v8 = 4 then (Option.bind (q_fR 8 12 g x0) fun v32 => Option.bind (v32) fun a33 => Option.bind (q_ob 2 g a33) fun u34 => Option.bind (fX2_at g a33 ((((x2 * ((1 : Int32) + (v3 * v2))) + (1 : Int32)) + (x1 * v2)) + (1 : Int32))) fun v35 => some (fX11_pack v35 (v7 &&& (255 : Int32)) (v7 &&& (255 : Int32)) (v7 &&& (255 : Int32)))) else (Option.bind (q_fR 8 12 g x0) fun v36 => Option.bind (v36) fun a37 => Option.bind (q_ob 2 g a37) fun u38 => Option.bind (fX2_at g a37 ((((x2 * ((1 : Int32) + (v3 * v2))) + (1 : Int32)) + (x1 * v2)) + (3 : Int32))) fun v39 => Option.bind (q_fR 8 12 g x0) fun v40 => Option.bind (v40) fun a41 => Option.bind (q_ob 2 g a41) fun u42 => Option.bind (fX2_at g a41 ((((x2 * ((1 : Int32) + (v3 * v2))) + (1 : Int32)) + (x1 * v2)) + (1 : Int32))) fun v43 => Option.bind (q_fR 8 12 g x0) fun v44 => Option.bind (v44) fun a45 => Option.bind (q_ob 2 g a45) fun u46 => Option.bind (fX2_at g a45 ((((x2 * ((1 : Int32) + (v3 * v2))) + (1 : Int32)) + (x1 * v2)) + (2 : Int32))) fun v47 => some (fX11_pack v39 (v7 &&& (255 : Int32)) v43 v47)))))
theorem rX8_colourAt {d : Nat} {Q : ps_Rs → ps_G → Prop} {g : ps_G} {x0 : Nat} {x1 : Int32} {x2 : Int32} {r : Int32} (h : fX8_colourAt g x0 x1 x2 = some r) (hk : Q (.inl (some (.int r))) g) : ps_Ok mX8_colourAt (d + 1) [.ref x0, .int x1, .int x2] g Q := by
  unfold fX8_colourAt at h
  refine sX8_colourAt_0 ?_
  replace h := q_be h
  obtain ⟨u1, hv, h⟩ := h
  replace hv := q_ob_e hv
  obtain ⟨_, cu1⟩ := hv
  replace h := q_be h
  obtain ⟨v2, hv, h⟩ := h
  refine ⟨⟨some _, rfl⟩, ⟨_, cu1⟩, ?_⟩
  refine rX8_channels hv ?_
  replace h := q_be h
  obtain ⟨v3, hv, h⟩ := h
  replace hv := q_fI_e hv
  obtain ⟨_, cv3, dv3⟩ := hv
  replace h := q_be h
  obtain ⟨v4, hv, h⟩ := h
  replace hv := q_fR_e hv
  obtain ⟨_, cv4, dv4⟩ := hv
  replace h := q_be h
  obtain ⟨a5, ea5, h⟩ := h
  subst ea5
  replace h := q_be h
  obtain ⟨u6, hv, h⟩ := h
  replace hv := q_ob_e hv
  obtain ⟨_, cu6⟩ := hv
  replace h := q_be h
  obtain ⟨v7, hv, h⟩ := h
  refine ⟨by decide, ⟨some _, rfl⟩, _, _, cv3, dv3, by decide, ⟨some _, rfl⟩, _, _, cv4, dv4, ⟨_, cu6⟩, ?_⟩
  refine rX2_at hv ?_
  replace h := q_be h
  obtain ⟨v8, hv, h⟩ := h
  replace hv := q_fI_e hv
  obtain ⟨_, cv8, dv8⟩ := hv
  refine ⟨by decide, ⟨some _, rfl⟩, _, _, cv8, dv8, ?_⟩
  refine sX8_colourAt_42 ?_
  by_cases hc9 : v8 = 0
  · replace h := q_ifp hc9 h
    have eT : ps_tsel 42 133 0 4 #[34, 133, 47, 78, 112] v8 = 76 := by
      rw [hc9]; decide +kernel
    refine ps_at_eq eT ?_
    refine sX8_colourAt_76 ?_
    refine rX11_pack rfl ?_
    cases h
    exact ⟨rfl, hk⟩
  replace h := q_ifn hc9 h
  by_cases hc10 : v8 = 2
  · replace h := q_ifp hc10 h
    have eT : ps_tsel 42 133 0 4 #[34, 133, 47, 78, 112] v8 = 89 := by
      rw [hc10]; decide +kernel
    refine ps_at_eq eT ?_
    refine sX8_colourAt_89 ?_
    replace h := q_be h
    obtain ⟨v11, hv, h⟩ := h
    replace hv := q_fR_e hv
    obtain ⟨_, cv11, dv11⟩ := hv
    replace h := q_be h
    obtain ⟨a12, ea12, h⟩ := h
    subst ea12
    replace h := q_be h
    obtain ⟨u13, hv, h⟩ := h
    replace hv := q_ob_e hv
    obtain ⟨_, cu13⟩ := hv
    replace h := q_be h
    obtain ⟨v14, hv, h⟩ := h
    refine ⟨⟨some _, rfl⟩, _, _, cv11, dv11, ⟨_, cu13⟩, ?_⟩
    refine rX2_at hv ?_
    replace h := q_be h
    obtain ⟨v15, hv, h⟩ := h
    replace hv := q_fR_e hv
    obtain ⟨_, cv15, dv15⟩ := hv
    replace h := q_be h
    obtain ⟨a16, ea16, h⟩ := h
    subst ea16
    replace h := q_be h
    obtain ⟨u17, hv, h⟩ := h
    replace hv := q_ob_e hv
    obtain ⟨_, cu17⟩ := hv
    replace h := q_be h
    obtain ⟨v18, hv, h⟩ := h
    refine ⟨⟨some _, rfl⟩, _, _, cv15, dv15, ⟨_, cu17⟩, ?_⟩
    refine rX2_at hv ?_
    refine rX11_pack rfl ?_
    cases h
    exact ⟨rfl, hk⟩
  replace h := q_ifn hc10 h
  by_cases hc19 : v8 = 3
  · replace h := q_ifp hc19 h
    have eT : ps_tsel 42 133 0 4 #[34, 133, 47, 78, 112] v8 = 120 := by
      rw [hc19]; decide +kernel
    refine ps_at_eq eT ?_
    refine sX8_colourAt_120 ?_
    replace h := q_be h
    obtain ⟨v20, hv, h⟩ := h
    replace hv := q_fI_e hv
    obtain ⟨_, cv20, dv20⟩ := hv
    refine ⟨⟨some _, rfl⟩, _, _, cv20, dv20, ?_⟩
    refine And.intro (fun hc21 => ?_) (fun hc21 => ?_)
    · replace h := q_ifp (hc21) h
      refine sX8_colourAt_139 ?_
      exact ps_weak (pjX8_colourAt_142 h hk) ⟨rfl, rfl, trivial⟩
    · replace h := q_ifn (hc21) h
      replace h := q_be h
      obtain ⟨v26, hv, h⟩ := h
      replace hv := q_fR_e hv
      obtain ⟨_, cv26, dv26⟩ := hv
      replace h := q_be h
      obtain ⟨a27, ea27, h⟩ := h
      subst ea27
      replace h := q_be h
      obtain ⟨v28, hv, h⟩ := h
      replace hv := q_aI_e hv
      obtain ⟨_, _, cv28, iv28, yv28⟩ := hv
      refine ⟨⟨some _, rfl⟩, _, _, cv26, dv26, _, _, cv28, iv28, _, yv28, ?_⟩
      exact ps_weak (pjX8_colourAt_142 h hk) ⟨rfl, rfl, trivial⟩
  replace h := q_ifn hc19 h
  by_cases hc31 : v8 = 4
  · replace h := q_ifp hc31 h
    have eT : ps_tsel 42 133 0 4 #[34, 133, 47, 78, 112] v8 = 154 := by
      rw [hc31]; decide +kernel
    refine ps_at_eq eT ?_
    refine sX8_colourAt_154 ?_
    replace h := q_be h
    obtain ⟨v32, hv, h⟩ := h
    replace hv := q_fR_e hv
    obtain ⟨_, cv32, dv32⟩ := hv
    replace h := q_be h
    obtain ⟨a33, ea33, h⟩ := h
    subst ea33
    replace h := q_be h
    obtain ⟨u34, hv, h⟩ := h
    replace hv := q_ob_e hv
    obtain ⟨_, cu34⟩ := hv
    replace h := q_be h
    obtain ⟨v35, hv, h⟩ := h
    refine ⟨⟨some _, rfl⟩, _, _, cv32, dv32, ⟨_, cu34⟩, ?_⟩
    refine rX2_at hv ?_
    refine rX11_pack rfl ?_
    cases h
    exact ⟨rfl, hk⟩
  replace h := q_ifn hc31 h
  have eD : ps_tsel 42 133 0 4 #[34, 133, 47, 78, 112] v8 = 175 := by
    refine q_tsd (by decide +kernel) (fun z h1 h2 => ?_)
    have hz : z = 0 ∨ z = 1 ∨ z = 2 ∨ z = 3 ∨ z = 4 := by omega
    rcases hz with rfl | rfl | rfl | rfl | rfl
    · exact Or.inl (q_tsx (v := 0) (fun z => hc9 z))
    · exact Or.inr (by decide +kernel)
    · exact Or.inl (q_tsx (v := 2) (fun z => hc10 z))
    · exact Or.inl (q_tsx (v := 3) (fun z => hc19 z))
    · exact Or.inl (q_tsx (v := 4) (fun z => hc31 z))
  refine ps_at_eq eD ?_
  refine sX8_colourAt_175 ?_
  replace h := q_be h
  obtain ⟨v36, hv, h⟩ := h
  replace hv := q_fR_e hv
  obtain ⟨_, cv36, dv36⟩ := hv
  replace h := q_be h
  obtain ⟨a37, ea37, h⟩ := h
  subst ea37
  replace h := q_be h
  obtain ⟨u38, hv, h⟩ := h
  replace hv := q_ob_e hv
  obtain ⟨_, cu38⟩ := hv
  replace h := q_be h
  obtain ⟨v39, hv, h⟩ := h
  refine ⟨⟨some _, rfl⟩, _, _, cv36, dv36, ⟨_, cu38⟩, ?_⟩
  refine rX2_at hv ?_
  replace h := q_be h
  obtain ⟨v40, hv, h⟩ := h
  replace hv := q_fR_e hv
  obtain ⟨_, cv40, dv40⟩ := hv
  replace h := q_be h
  obtain ⟨a41, ea41, h⟩ := h
  subst ea41
  replace h := q_be h
  obtain ⟨u42, hv, h⟩ := h
  replace hv := q_ob_e hv
  obtain ⟨_, cu42⟩ := hv
  replace h := q_be h
  obtain ⟨v43, hv, h⟩ := h
  refine ⟨⟨some _, rfl⟩, _, _, cv40, dv40, ⟨_, cu42⟩, ?_⟩
  refine rX2_at hv ?_
  replace h := q_be h
  obtain ⟨v44, hv, h⟩ := h
  replace hv := q_fR_e hv
  obtain ⟨_, cv44, dv44⟩ := hv
  replace h := q_be h
  obtain ⟨a45, ea45, h⟩ := h
  subst ea45
  replace h := q_be h
  obtain ⟨u46, hv, h⟩ := h
  replace hv := q_ob_e hv
  obtain ⟨_, cu46⟩ := hv
  replace h := q_be h
  obtain ⟨v47, hv, h⟩ := h
  refine ⟨⟨some _, rfl⟩, _, _, cv44, dv44, ⟨_, cu46⟩, ?_⟩
  refine rX2_at hv ?_
  refine rX11_pack rfl ?_
  cases h
  exact ⟨rfl, hk⟩
noncomputable def jX8_paint_64_21 (g : ps_G) (x0 : Nat) (x1 : Nat) (x2 : Int32) (x3 : Int32) (x4 : Int32) (x5 : Int32) : Option ((Int32 × ps_G) ⊕ (ps_G)) := some (.inl (x5 + (1 : Int32), g))
theorem pjX8_paint_64_21 {d : Nat} {Q : ps_Rs → ps_G → Prop} {g : ps_G} {x0 : Nat} {x1 : Nat} {x2 : Int32} {x3 : Int32} {x4 : Int32} {x5 : Int32} {x : (Int32 × ps_G) ⊕ (ps_G)} (h : jX8_paint_64_21 g x0 x1 x2 x3 x4 x5 = some x) (hh : ∀ s' : Int32 × ps_G, x = .inl s' → ps_At mX8_paint (d + 2) 21 [(0, .ref x0), (1, .ref x1), (2, .int x2), (3, .int x3), (4, .int x4), (5, .int s'.1)] [] s'.2 Q) (he : ∀ r' : ps_G, x = .inr r' → ps_At mX8_paint (d + 2) 70 [(0, .ref x0), (1, .ref x1), (2, .int x2), (3, .int x3), (4, .int x4)] [] r' Q) : ps_At mX8_paint (d + 2) 64 [(0, .ref x0), (1, .ref x1), (2, .int x2), (3, .int x3), (4, .int x4), (5, .int x5)] [] g Q := by
  unfold jX8_paint_64_21 at h
  refine sX8_paint_64 ?_
  refine ⟨by decide, ?_⟩
  exact ps_weak (hh (x5 + (1 : Int32), g) (Option.some.inj h).symm) ⟨rfl, rfl, rfl, rfl, rfl, rfl, trivial⟩
noncomputable def bX8_paint_21 (x0 : Nat) (x1 : Nat) (x2 : Int32) (x3 : Int32) (x4 : Int32) (x5 : Int32) (g : ps_G) : Option ((Int32 × ps_G) ⊕ (ps_G)) := if x2 ≤ x5 then (some (.inr g)) else (Option.bind (q_fI 8 4 g x0) fun v7 => if v7 ≤ x5 then (some (.inr g)) else (Option.bind (q_len g x1) fun v10 => if v10 ≤ ((x4 * x2) + x5) then (jX8_paint_64_21 g x0 x1 x2 x3 x4 x5) else (Option.bind (q_ob 8 g x0) fun u13 => Option.bind (fX8_colourAt g x0 x5 x4) fun v14 => Option.bind (q_wI g x1 ((x4 * x2) + x5) v14) fun g15 => jX8_paint_64_21 g15 x0 x1 x2 x3 x4 x5)))
theorem pbX8_paint_21 {d : Nat} {Q : ps_Rs → ps_G → Prop}  {x0 : Nat} {x1 : Nat} {x2 : Int32} {x3 : Int32} {x4 : Int32} {x5 : Int32} {g : ps_G} {x : (Int32 × ps_G) ⊕ (ps_G)} (h : bX8_paint_21 x0 x1 x2 x3 x4 x5 g = some x) (hh : ∀ s' : Int32 × ps_G, x = .inl s' → ps_At mX8_paint (d + 2) 21 [(0, .ref x0), (1, .ref x1), (2, .int x2), (3, .int x3), (4, .int x4), (5, .int s'.1)] [] s'.2 Q) (he : ∀ r' : ps_G, x = .inr r' → ps_At mX8_paint (d + 2) 70 [(0, .ref x0), (1, .ref x1), (2, .int x2), (3, .int x3), (4, .int x4)] [] r' Q) : ps_At mX8_paint (d + 2) 21 [(0, .ref x0), (1, .ref x1), (2, .int x2), (3, .int x3), (4, .int x4), (5, .int x5)] [] g Q := by
  unfold bX8_paint_21 at h
  refine sX8_paint_21 ?_
  refine And.intro (fun hc5 => ?_) (fun hc5 => ?_)
  · replace h := q_ifp (hc5) h
    exact ps_weak (he g (Option.some.inj h).symm) ⟨rfl, rfl, rfl, rfl, rfl, trivial⟩
  · replace h := q_ifn (hc5) h
    replace h := q_be h
    obtain ⟨v7, hv, h⟩ := h
    replace hv := q_fI_e hv
    obtain ⟨_, cv7, dv7⟩ := hv
    refine ⟨⟨some _, rfl⟩, _, _, cv7, dv7, ?_⟩
    refine And.intro (fun hc8 => ?_) (fun hc8 => ?_)
    · replace h := q_ifp (hc8) h
      exact ps_weak (he g (Option.some.inj h).symm) ⟨rfl, rfl, rfl, rfl, rfl, trivial⟩
    · replace h := q_ifn (hc8) h
      replace h := q_be h
      obtain ⟨v10, hv, h⟩ := h
      replace hv := q_len_e hv
      obtain ⟨_, _, cv10, qv10, yv10⟩ := hv
      refine ⟨by decide, ⟨some _, rfl⟩, _, _, cv10, qv10, _, yv10, ?_⟩
      refine And.intro (fun hc11 => ?_) (fun hc11 => ?_)
      · replace h := q_ifp (hc11) h
        exact ps_weak (pjX8_paint_64_21 h hh he) ⟨rfl, rfl, rfl, rfl, rfl, rfl, trivial⟩
      · replace h := q_ifn (hc11) h
        replace h := q_be h
        obtain ⟨u13, hv, h⟩ := h
        replace hv := q_ob_e hv
        obtain ⟨_, cu13⟩ := hv
        replace h := q_be h
        obtain ⟨v14, hv, h⟩ := h
        refine ⟨⟨some _, rfl⟩, ⟨some _, rfl⟩, ⟨_, cu13⟩, ?_⟩
        refine rX8_colourAt hv ?_
        replace h := q_be h
        obtain ⟨g15, hv, h⟩ := h
        replace hv := q_wI_e hv
        obtain ⟨_, _, cg15, pg15, ig15, yg15⟩ := hv
        refine ⟨_, _, cg15, pg15, ig15, _, yg15, ?_⟩
        exact ps_weak (pjX8_paint_64_21 h hh he) ⟨rfl, rfl, rfl, rfl, rfl, rfl, trivial⟩
noncomputable def jX8_paint_70_3 (g : ps_G) (x0 : Nat) (x1 : Nat) (x2 : Int32) (x3 : Int32) (x4 : Int32) : Option ((Int32 × ps_G) ⊕ (ps_G)) := some (.inl (x4 + (1 : Int32), g))
theorem pjX8_paint_70_3 {d : Nat} {Q : ps_Rs → ps_G → Prop} {g : ps_G} {x0 : Nat} {x1 : Nat} {x2 : Int32} {x3 : Int32} {x4 : Int32} {x : (Int32 × ps_G) ⊕ (ps_G)} (h : jX8_paint_70_3 g x0 x1 x2 x3 x4 = some x) (hh : ∀ s' : Int32 × ps_G, x = .inl s' → ps_At mX8_paint (d + 2) 3 [(0, .ref x0), (1, .ref x1), (2, .int x2), (3, .int x3), (4, .int s'.1)] [] s'.2 Q) (he : ∀ r' : ps_G, x = .inr r' → ps_At mX8_paint (d + 2) 76 [] [] r' Q) : ps_At mX8_paint (d + 2) 70 [(0, .ref x0), (1, .ref x1), (2, .int x2), (3, .int x3), (4, .int x4)] [] g Q := by
  unfold jX8_paint_70_3 at h
  refine sX8_paint_70 ?_
  refine ⟨by decide, ?_⟩
  exact ps_weak (hh (x4 + (1 : Int32), g) (Option.some.inj h).symm) ⟨rfl, rfl, rfl, rfl, rfl, trivial⟩
noncomputable def bX8_paint_3 (x0 : Nat) (x1 : Nat) (x2 : Int32) (x3 : Int32) (x4 : Int32) (g : ps_G) : Option ((Int32 × ps_G) ⊕ (ps_G)) := if x3 ≤ x4 then (some (.inr g)) else (Option.bind (q_fI 8 5 g x0) fun v3 => if v3 ≤ x4 then (some (.inr g)) else (Option.bind (q_lp (fun s => bX8_paint_21 x0 x1 x2 x3 x4 s.1 s.2) ((0 : Int32), g)) fun s22 => jX8_paint_70_3 s22 x0 x1 x2 x3 x4))
theorem pbX8_paint_3 {d : Nat} {Q : ps_Rs → ps_G → Prop}  {x0 : Nat} {x1 : Nat} {x2 : Int32} {x3 : Int32} {x4 : Int32} {g : ps_G} {x : (Int32 × ps_G) ⊕ (ps_G)} (h : bX8_paint_3 x0 x1 x2 x3 x4 g = some x) (hh : ∀ s' : Int32 × ps_G, x = .inl s' → ps_At mX8_paint (d + 2) 3 [(0, .ref x0), (1, .ref x1), (2, .int x2), (3, .int x3), (4, .int s'.1)] [] s'.2 Q) (he : ∀ r' : ps_G, x = .inr r' → ps_At mX8_paint (d + 2) 76 [] [] r' Q) : ps_At mX8_paint (d + 2) 3 [(0, .ref x0), (1, .ref x1), (2, .int x2), (3, .int x3), (4, .int x4)] [] g Q := by
  unfold bX8_paint_3 at h
  refine sX8_paint_3 ?_
  refine And.intro (fun hc1 => ?_) (fun hc1 => ?_)
  · replace h := q_ifp (hc1) h
    exact ps_weak (he g (Option.some.inj h).symm) trivial
  · replace h := q_ifn (hc1) h
    replace h := q_be h
    obtain ⟨v3, hv, h⟩ := h
    replace hv := q_fI_e hv
    obtain ⟨_, cv3, dv3⟩ := hv
    refine ⟨⟨some _, rfl⟩, _, _, cv3, dv3, ?_⟩
    refine And.intro (fun hc4 => ?_) (fun hc4 => ?_)
    · replace h := q_ifp (hc4) h
      exact ps_weak (he g (Option.some.inj h).symm) trivial
    · replace h := q_ifn (hc4) h
      refine ⟨by decide, ?_⟩
      replace h := q_be h
      obtain ⟨s22, hl, h⟩ := h
      refine ps_weak (q_lp_ok hl (fun s => ps_At mX8_paint (d + 2) 21 [(0, .ref x0), (1, .ref x1), (2, .int x2), (3, .int x3), (4, .int x4), (5, .int s.1)] [] s.2 Q) (fun r => ps_At mX8_paint (d + 2) 70 [(0, .ref x0), (1, .ref x1), (2, .int x2), (3, .int x3), (4, .int x4)] [] r Q) (fun s x hb hh he => pbX8_paint_21 hb hh he) ?_) ⟨rfl, rfl, rfl, rfl, rfl, rfl, trivial⟩
      refine (?_ : ps_At mX8_paint (d + 2) 70 [(0, .ref x0), (1, .ref x1), (2, .int x2), (3, .int x3), (4, .int x4)] [] s22 Q)
      exact ps_weak (pjX8_paint_70_3 h hh he) ⟨rfl, rfl, rfl, rfl, rfl, trivial⟩
noncomputable def jX8_paint_76 (g : ps_G) : Option (ps_G) := some g
theorem pjX8_paint_76 {d : Nat} {Q : ps_Rs → ps_G → Prop} {g : ps_G}  {r : ps_G} (h : jX8_paint_76 g = some r) (hk : Q (.inl none) r) : ps_At mX8_paint (d + 2) 76 [] [] g Q := by
  unfold jX8_paint_76 at h
  refine sX8_paint_76 ?_
  cases h
  exact ⟨rfl, rfl, hk⟩
noncomputable def fX8_paint (g : ps_G) (x0 : Nat) (x1 : Nat) (x2 : Int32) (x3 : Int32) : Option (ps_G) := Option.bind (q_lp (fun s => bX8_paint_3 x0 x1 x2 x3 s.1 s.2) ((0 : Int32), g)) fun s27 => jX8_paint_76 s27
theorem rX8_paint {d : Nat} {Q : ps_Rs → ps_G → Prop} {g : ps_G} {x0 : Nat} {x1 : Nat} {x2 : Int32} {x3 : Int32} {r : ps_G} (h : fX8_paint g x0 x1 x2 x3 = some r) (hk : Q (.inl none) r) : ps_Ok mX8_paint (d + 2) [.ref x0, .ref x1, .int x2, .int x3] g Q := by
  unfold fX8_paint at h
  refine sX8_paint_0 ?_
  refine ⟨by decide, ?_⟩
  replace h := q_be h
  obtain ⟨s27, hl, h⟩ := h
  refine ps_weak (q_lp_ok hl (fun s => ps_At mX8_paint (d + 2) 3 [(0, .ref x0), (1, .ref x1), (2, .int x2), (3, .int x3), (4, .int s.1)] [] s.2 Q) (fun r => ps_At mX8_paint (d + 2) 76 [] [] r Q) (fun s x hb hh he => pbX8_paint_3 hb hh he) ?_) ⟨rfl, rfl, rfl, rfl, rfl, trivial⟩
  refine (?_ : ps_At mX8_paint (d + 2) 76 [] [] s27 Q)
  exact ps_weak (pjX8_paint_76 h hk) trivial
noncomputable def jX11_png_42 (g : ps_G) (x0 : Nat) : Option ((String ⊕ Int32) × ps_G) := Option.bind (q_nA .int g (576 : Int32)) fun g16 => Option.bind (q_fR 11 12 g16 x0) fun v17 => Option.bind (v17) fun a18 => Option.bind (q_fR 11 0 g16 x0) fun v19 => Option.bind (v19) fun a20 => Option.bind (q_fI 9 0 g16 a20) fun v21 => Option.bind (q_fR 11 0 g16 x0) fun v22 => Option.bind (v22) fun a23 => Option.bind (q_fI 9 1 g16 a23) fun v24 => Option.bind (q_ob 8 g16 a18) fun u25 => Option.bind (fX8_paint g16 a18 g.1 v21 v24) fun v26 => Option.bind (q_ob 11 v26 x0) fun u27 => q_b2 (fX11_addPixels v26 x0 g.1) fun v28 g29 => some (.inr v28, g29)
theorem pjX11_png_42 {d : Nat} {Q : ps_Rs → ps_G → Prop} {g : ps_G} {x0 : Nat} {r : (String ⊕ Int32) × ps_G} (h : jX11_png_42 g x0 = some r) (hk : Q (q_rI r.1) r.2) : ps_At mX11_png (d + 7) 42 [(0, .ref x0)] [] g Q := by
  unfold jX11_png_42 at h
  refine sX11_png_42 ?_
  replace h := q_be h
  obtain ⟨g16, hv, h⟩ := h
  replace hv := q_nA_e hv
  obtain ⟨ag16, bg16, yg16⟩ := hv
  replace h := q_be h
  obtain ⟨v17, hv, h⟩ := h
  replace hv := q_fR_e hv
  obtain ⟨_, cv17, dv17⟩ := hv
  replace h := q_be h
  obtain ⟨a18, ea18, h⟩ := h
  subst ea18
  replace h := q_be h
  obtain ⟨v19, hv, h⟩ := h
  replace hv := q_fR_e hv
  obtain ⟨_, cv19, dv19⟩ := hv
  replace h := q_be h
  obtain ⟨a20, ea20, h⟩ := h
  subst ea20
  replace h := q_be h
  obtain ⟨v21, hv, h⟩ := h
  replace hv := q_fI_e hv
  obtain ⟨_, cv21, dv21⟩ := hv
  replace h := q_be h
  obtain ⟨v22, hv, h⟩ := h
  replace hv := q_fR_e hv
  obtain ⟨_, cv22, dv22⟩ := hv
  replace h := q_be h
  obtain ⟨a23, ea23, h⟩ := h
  subst ea23
  replace h := q_be h
  obtain ⟨v24, hv, h⟩ := h
  replace hv := q_fI_e hv
  obtain ⟨_, cv24, dv24⟩ := hv
  replace h := q_be h
  obtain ⟨u25, hv, h⟩ := h
  replace hv := q_ob_e hv
  obtain ⟨_, cu25⟩ := hv
  replace h := q_be h
  obtain ⟨v26, hv, h⟩ := h
  refine ⟨Or.inl rfl, ag16, bg16, _, yg16, some _, _, rfl, by decide, ⟨some _, rfl⟩, _, _, cv17, dv17, ⟨some _, rfl⟩, ⟨some _, rfl⟩, _, _, cv19, dv19, _, _, cv21, dv21, ⟨some _, rfl⟩, _, _, cv22, dv22, _, _, cv24, dv24, ⟨_, cu25⟩, ?_⟩
  refine rX8_paint hv ?_
  replace h := q_be h
  obtain ⟨u27, hv, h⟩ := h
  replace hv := q_ob_e hv
  obtain ⟨_, cu27⟩ := hv
  replace h := q_b2_e h
  obtain ⟨v28, g29, hv, h⟩ := h
  refine ⟨⟨some _, rfl⟩, ⟨some _, rfl⟩, ⟨_, cu27⟩, ?_⟩
  refine rX11_addPixels hv ?_
  cases h
  exact ⟨rfl, hk⟩
noncomputable def fX11_png (g : ps_G) (x0 : Nat) : Option ((String ⊕ Int32) × ps_G) := Option.bind (q_ob 11 g x0) fun u1 => q_b2 (fX11_takeInput g x0) fun v2 g3 => Option.bind (q_ob 11 g3 x0) fun u4 => q_tc (fX11_needNumber g3 x0) fun v5 g6 => Option.bind (q_fR 11 12 g6 x0) fun v7 => Option.bind (v7) fun a8 => Option.bind (q_fR 11 13 g6 x0) fun v9 => Option.bind (v9) fun a10 => Option.bind (q_ob 8 g6 a8) fun u11 => q_b2 (fX8_read g6 a8 a10 v2) fun v12 g13 => if ¬ v12 = 0 then (jX11_png_42 g13 x0) else (Option.bind (q_fR 11 12 g13 x0) fun v30 => Option.bind (v30) fun a31 => Option.bind (q_fI 8 0 g13 a31) fun v32 => Option.bind (q_fR 11 12 g13 x0) fun v33 => Option.bind (v33) fun a34 => Option.bind (q_fI 8 1 g13 a34) fun v35 => Option.bind (q_ob 11 g13 x0) fun u36 => q_tc (fX11_failInput g13 x0 v32 v35) fun v37 g38 => jX11_png_42 g38 x0)
theorem rX11_png {d : Nat} {Q : ps_Rs → ps_G → Prop} {g : ps_G} {x0 : Nat} {r : (String ⊕ Int32) × ps_G} (h : fX11_png g x0 = some r) (hk : Q (q_rI r.1) r.2) : ps_Ok mX11_png (d + 7) [.ref x0] g Q := by
  unfold fX11_png at h
  refine sX11_png_0 ?_
  replace h := q_be h
  obtain ⟨u1, hv, h⟩ := h
  replace hv := q_ob_e hv
  obtain ⟨_, cu1⟩ := hv
  replace h := q_b2_e h
  obtain ⟨v2, g3, hv, h⟩ := h
  refine ⟨⟨some _, rfl⟩, ⟨_, cu1⟩, ?_⟩
  refine rX11_takeInput hv ?_
  replace h := q_be h
  obtain ⟨u4, hv, h⟩ := h
  replace hv := q_ob_e hv
  obtain ⟨_, cu4⟩ := hv
  refine ⟨by decide, ⟨some _, rfl⟩, ⟨_, cu4⟩, ?_⟩
  replace h := q_tc_e h
  rcases h with ⟨E, g6, hv, rfl⟩ | ⟨v5, g6, hv, h⟩
  · exact rX11_needNumber hv hk
  refine rX11_needNumber hv ?_
  replace h := q_be h
  obtain ⟨v7, hv, h⟩ := h
  replace hv := q_fR_e hv
  obtain ⟨_, cv7, dv7⟩ := hv
  replace h := q_be h
  obtain ⟨a8, ea8, h⟩ := h
  subst ea8
  replace h := q_be h
  obtain ⟨v9, hv, h⟩ := h
  replace hv := q_fR_e hv
  obtain ⟨_, cv9, dv9⟩ := hv
  replace h := q_be h
  obtain ⟨a10, ea10, h⟩ := h
  subst ea10
  replace h := q_be h
  obtain ⟨u11, hv, h⟩ := h
  replace hv := q_ob_e hv
  obtain ⟨_, cu11⟩ := hv
  replace h := q_b2_e h
  obtain ⟨v12, g13, hv, h⟩ := h
  refine ⟨⟨some _, rfl⟩, _, _, cv7, dv7, ⟨some _, rfl⟩, _, _, cv9, dv9, ⟨_, cu11⟩, ?_⟩
  refine rX8_read hv ?_
  refine And.intro (fun hc14 => ?_) (fun hc14 => ?_)
  · replace h := q_ifp (hc14) h
    exact ps_weak (pjX11_png_42 h hk) ⟨rfl, trivial⟩
  · replace h := q_ifn (hc14) h
    replace h := q_be h
    obtain ⟨v30, hv, h⟩ := h
    replace hv := q_fR_e hv
    obtain ⟨_, cv30, dv30⟩ := hv
    replace h := q_be h
    obtain ⟨a31, ea31, h⟩ := h
    subst ea31
    replace h := q_be h
    obtain ⟨v32, hv, h⟩ := h
    replace hv := q_fI_e hv
    obtain ⟨_, cv32, dv32⟩ := hv
    replace h := q_be h
    obtain ⟨v33, hv, h⟩ := h
    replace hv := q_fR_e hv
    obtain ⟨_, cv33, dv33⟩ := hv
    replace h := q_be h
    obtain ⟨a34, ea34, h⟩ := h
    subst ea34
    replace h := q_be h
    obtain ⟨v35, hv, h⟩ := h
    replace hv := q_fI_e hv
    obtain ⟨_, cv35, dv35⟩ := hv
    replace h := q_be h
    obtain ⟨u36, hv, h⟩ := h
    replace hv := q_ob_e hv
    obtain ⟨_, cu36⟩ := hv
    refine ⟨⟨some _, rfl⟩, ⟨some _, rfl⟩, _, _, cv30, dv30, _, _, cv32, dv32, ⟨some _, rfl⟩, _, _, cv33, dv33, _, _, cv35, dv35, ⟨_, cu36⟩, ?_⟩
    replace h := q_tc_e h
    rcases h with ⟨E, g38, hv, rfl⟩ | ⟨v37, g38, hv, h⟩
    · exact rX11_failInput hv hk
    refine rX11_failInput hv ?_
    exact ps_weak (pjX11_png_42 h hk) ⟨rfl, trivial⟩
noncomputable def jX11_needShape_146 (g : ps_G) (x5 : Int32) (x6 : Int32) (x7 : Int32) (x8 : Int32) (k0 : Int32) (k1 : Int32) (k2 : Int32) : Option ((String ⊕ Unit) × ps_G) := q_tc (fX11_range g k0 k1 k2) fun v39 g40 => q_tc (fX11_range g40 x5 (if ¬ (¬ x7 = 0) ∧ (x8 = 0) then (-100 : Int32) else (0 : Int32)) (if x7 = 0 then (100 : Int32) else (255 : Int32))) fun v48 g49 => q_tc (fX11_range g49 x6 (if x8 = 0 then (-100 : Int32) else (0 : Int32)) (100 : Int32)) fun v53 g54 => some (.inr (), g54)
theorem pjX11_needShape_146 {d : Nat} {Q : ps_Rs → ps_G → Prop} {g : ps_G} {x5 : Int32} {x6 : Int32} {x7 : Int32} {x8 : Int32} {k0 : Int32} {k1 : Int32} {k2 : Int32} {r : (String ⊕ Unit) × ps_G} (h : jX11_needShape_146 g x5 x6 x7 x8 k0 k1 k2 = some r) (hk : Q (q_rV r.1) r.2) : ps_At mX11_needShape (d + 7) 146 [(5, .int x5), (6, .int x6), (7, .int x7), (8, .int x8)] [.int k2, .int k1, .int k0] g Q := by
  unfold jX11_needShape_146 at h
  refine sX11_needShape_146 ?_
  replace h := q_tc_e h
  rcases h with ⟨E, g40, hv, rfl⟩ | ⟨v39, g40, hv, h⟩
  · exact rX11_range hv ⟨rfl, hk⟩
  refine rX11_range hv ?_
  have kJ44 : ∀ w43 : Int32, w43 = (if ¬ (¬ x7 = 0) ∧ (x8 = 0) then (-100 : Int32) else (0 : Int32)) → ps_At mX11_needShape (d + 7) 167 [(6, .int x6), (7, .int x7), (8, .int x8)] [.int w43, .int x5] g40 Q := by
    rintro _ rfl
    refine sX11_needShape_167 ?_
    have kJ47 : ∀ w46 : Int32, w46 = (if x7 = 0 then (100 : Int32) else (255 : Int32)) → ps_At mX11_needShape (d + 7) 180 [(6, .int x6), (8, .int x8)] [.int w46, .int (if ¬ (¬ x7 = 0) ∧ (x8 = 0) then (-100 : Int32) else (0 : Int32)), .int x5] g40 Q := by
      rintro _ rfl
      refine sX11_needShape_180 ?_
      replace h := q_tc_e h
      rcases h with ⟨E, g49, hv, rfl⟩ | ⟨v48, g49, hv, h⟩
      · exact rX11_range hv ⟨rfl, hk⟩
      refine rX11_range hv ?_
      have kJ52 : ∀ w51 : Int32, w51 = (if x8 = 0 then (-100 : Int32) else (0 : Int32)) → ps_At mX11_needShape (d + 7) 196 [] [.int w51, .int x6] g49 Q := by
        rintro _ rfl
        refine sX11_needShape_196 ?_
        replace h := q_tc_e h
        rcases h with ⟨E, g54, hv, rfl⟩ | ⟨v53, g54, hv, h⟩
        · exact rX11_range hv ⟨rfl, hk⟩
        refine rX11_range hv ?_
        cases h
        exact ⟨rfl, rfl, hk⟩
      refine And.intro (fun hc50 => ?_) (fun hc50 => ?_)
      · refine sX11_needShape_194 ?_
        exact ps_weak (kJ52 _ (if_pos (hc50)).symm) trivial
      · exact ps_weak (kJ52 _ (if_neg (hc50)).symm) trivial
    refine And.intro (fun hc45 => ?_) (fun hc45 => ?_)
    · refine sX11_needShape_178 ?_
      exact ps_weak (kJ47 _ (if_pos (hc45)).symm) ⟨rfl, rfl, trivial⟩
    · exact ps_weak (kJ47 _ (if_neg (hc45)).symm) ⟨rfl, rfl, trivial⟩
  refine And.intro (fun hc41 => ?_) (fun hc41 => ?_)
  · refine sX11_needShape_161 ?_
    exact ps_weak (kJ44 _ (if_neg (fun z => z.1 hc41)).symm) ⟨rfl, rfl, rfl, trivial⟩
  · refine And.intro (fun hc42 => ?_) (fun hc42 => ?_)
    · refine sX11_needShape_165 ?_
      exact ps_weak (kJ44 _ (if_pos (⟨hc41, hc42⟩)).symm) ⟨rfl, rfl, rfl, trivial⟩
    · refine sX11_needShape_161 ?_
      exact ps_weak (kJ44 _ (if_neg (fun z => hc42 z.2)).symm) ⟨rfl, rfl, rfl, trivial⟩
noncomputable def jX11_needShape_95 (g : ps_G) (x0 : Nat) (x1 : Int32) (x4 : Int32) (x5 : Int32) (x6 : Int32) (x7 : Int32) (x8 : Int32) (k0 : Int32) (k1 : Int32) (k2 : Int32) : Option ((String ⊕ Unit) × ps_G) := q_tc (fX11_range g k0 k1 k2) fun v25 g26 => if x7 = 0 then (jX11_needShape_146 g26 x5 x6 x7 x8 x4 (if ¬ (¬ x7 = 0) ∧ (¬ x1 = (6 : Int32)) then (-100 : Int32) else (0 : Int32)) (if ¬ x1 = (6 : Int32) then (100 : Int32) else (1 : Int32))) else (Option.bind (q_fR 11 0 g26 x0) fun v55 => Option.bind (v55) fun a56 => Option.bind (q_fI 9 1 g26 a56) fun v57 => jX11_needShape_146 g26 x5 x6 x7 x8 x4 (if ¬ (¬ x7 = 0) ∧ (¬ x1 = (6 : Int32)) then (-100 : Int32) else (0 : Int32)) (v57 - (1 : Int32)))
theorem pjX11_needShape_95 {d : Nat} {Q : ps_Rs → ps_G → Prop} {g : ps_G} {x0 : Nat} {x1 : Int32} {x4 : Int32} {x5 : Int32} {x6 : Int32} {x7 : Int32} {x8 : Int32} {k0 : Int32} {k1 : Int32} {k2 : Int32} {r : (String ⊕ Unit) × ps_G} (h : jX11_needShape_95 g x0 x1 x4 x5 x6 x7 x8 k0 k1 k2 = some r) (hk : Q (q_rV r.1) r.2) : ps_At mX11_needShape (d + 7) 95 [(0, .ref x0), (1, .int x1), (4, .int x4), (5, .int x5), (6, .int x6), (7, .int x7), (8, .int x8)] [.int k2, .int k1, .int k0] g Q := by
  unfold jX11_needShape_95 at h
  refine sX11_needShape_95 ?_
  replace h := q_tc_e h
  rcases h with ⟨E, g26, hv, rfl⟩ | ⟨v25, g26, hv, h⟩
  · exact rX11_range hv ⟨rfl, hk⟩
  refine rX11_range hv ?_
  have kJ30 : ∀ w29 : Int32, w29 = (if ¬ (¬ x7 = 0) ∧ (¬ x1 = (6 : Int32)) then (-100 : Int32) else (0 : Int32)) → ps_At mX11_needShape (d + 7) 117 [(0, .ref x0), (1, .int x1), (5, .int x5), (6, .int x6), (7, .int x7), (8, .int x8)] [.int w29, .int x4] g26 Q := by
    rintro _ rfl
    refine sX11_needShape_117 ?_
    refine And.intro (fun hc31 => ?_) (fun hc31 => ?_)
    · replace h := q_ifp (hc31) h
      refine sX11_needShape_134 ?_
      have kJ38 : ∀ w37 : Int32, w37 = (if ¬ x1 = (6 : Int32) then (100 : Int32) else (1 : Int32)) → ps_At mX11_needShape (d + 7) 146 [(5, .int x5), (6, .int x6), (7, .int x7), (8, .int x8)] [.int w37, .int (if ¬ (¬ x7 = 0) ∧ (¬ x1 = (6 : Int32)) then (-100 : Int32) else (0 : Int32)), .int x4] g26 Q := by
        rintro _ rfl
        exact ps_weak (pjX11_needShape_146 h hk) ⟨rfl, rfl, rfl, rfl, trivial⟩
      refine And.intro (fun hc36 => ?_) (fun hc36 => ?_)
      · refine sX11_needShape_144 ?_
        exact ps_weak (kJ38 _ (if_pos (hc36)).symm) ⟨rfl, rfl, rfl, rfl, trivial⟩
      · exact ps_weak (kJ38 _ (if_neg (hc36)).symm) ⟨rfl, rfl, rfl, rfl, trivial⟩
    · replace h := q_ifn (hc31) h
      replace h := q_be h
      obtain ⟨v55, hv, h⟩ := h
      replace hv := q_fR_e hv
      obtain ⟨_, cv55, dv55⟩ := hv
      replace h := q_be h
      obtain ⟨a56, ea56, h⟩ := h
      subst ea56
      replace h := q_be h
      obtain ⟨v57, hv, h⟩ := h
      replace hv := q_fI_e hv
      obtain ⟨_, cv57, dv57⟩ := hv
      refine ⟨⟨some _, rfl⟩, _, _, cv55, dv55, _, _, cv57, dv57, ?_⟩
      exact ps_weak (pjX11_needShape_146 h hk) ⟨rfl, rfl, rfl, rfl, trivial⟩
  refine And.intro (fun hc27 => ?_) (fun hc27 => ?_)
  · refine sX11_needShape_111 ?_
    exact ps_weak (kJ30 _ (if_neg (fun z => z.1 hc27)).symm) ⟨rfl, rfl, rfl, rfl, rfl, rfl, trivial⟩
  · refine And.intro (fun hc28 => ?_) (fun hc28 => ?_)
    · refine sX11_needShape_115 ?_
      exact ps_weak (kJ30 _ (if_pos (⟨hc27, hc28⟩)).symm) ⟨rfl, rfl, rfl, rfl, rfl, rfl, trivial⟩
    · refine sX11_needShape_111 ?_
      exact ps_weak (kJ30 _ (if_neg (fun z => hc28 z.2)).symm) ⟨rfl, rfl, rfl, rfl, rfl, rfl, trivial⟩
noncomputable def fX11_needShape (g : ps_G) (x0 : Nat) (x1 : Int32) (x2 : Int32) (x3 : Int32) (x4 : Int32) (x5 : Int32) (x6 : Int32) : Option ((String ⊕ Unit) × ps_G) := q_tc (fX11_range g x1 (0 : Int32) (6 : Int32)) fun v9 g10 => q_tc (fX11_range g10 x2 (0 : Int32) (3 : Int32)) fun v11 g12 => if (if ¬ (x1 = (3 : Int32)) ∧ (¬ x1 = (4 : Int32)) then (0 : Int32) else (1 : Int32)) = 0 then (jX11_needShape_95 g12 x0 x1 x4 x5 x6 (if ¬ (x1 = (3 : Int32)) ∧ (¬ x1 = (4 : Int32)) then (0 : Int32) else (1 : Int32)) (if ¬ (x1 = (1 : Int32)) ∧ (¬ x1 = (2 : Int32)) then (0 : Int32) else (1 : Int32)) x3 (if ¬ (¬ (if ¬ (x1 = (3 : Int32)) ∧ (¬ x1 = (4 : Int32)) then (0 : Int32) else (1 : Int32)) = 0) ∧ (¬ x1 = (6 : Int32)) then (-100 : Int32) else (0 : Int32)) (if ¬ x1 = (6 : Int32) then (100 : Int32) else (7 : Int32))) else (Option.bind (q_fR 11 0 g12 x0) fun v60 => Option.bind (v60) fun a61 => Option.bind (q_fI 9 0 g12 a61) fun v62 => jX11_needShape_95 g12 x0 x1 x4 x5 x6 (if ¬ (x1 = (3 : Int32)) ∧ (¬ x1 = (4 : Int32)) then (0 : Int32) else (1 : Int32)) (if ¬ (x1 = (1 : Int32)) ∧ (¬ x1 = (2 : Int32)) then (0 : Int32) else (1 : Int32)) x3 (if ¬ (¬ (if ¬ (x1 = (3 : Int32)) ∧ (¬ x1 = (4 : Int32)) then (0 : Int32) else (1 : Int32)) = 0) ∧ (¬ x1 = (6 : Int32)) then (-100 : Int32) else (0 : Int32)) (v62 - (1 : Int32)))
theorem rX11_needShape {d : Nat} {Q : ps_Rs → ps_G → Prop} {g : ps_G} {x0 : Nat} {x1 : Int32} {x2 : Int32} {x3 : Int32} {x4 : Int32} {x5 : Int32} {x6 : Int32} {r : (String ⊕ Unit) × ps_G} (h : fX11_needShape g x0 x1 x2 x3 x4 x5 x6 = some r) (hk : Q (q_rV r.1) r.2) : ps_Ok mX11_needShape (d + 7) [.ref x0, .int x1, .int x2, .int x3, .int x4, .int x5, .int x6] g Q := by
  unfold fX11_needShape at h
  refine sX11_needShape_0 ?_
  have kJ4 : ∀ w3 : Int32, w3 = (if ¬ (x1 = (3 : Int32)) ∧ (¬ x1 = (4 : Int32)) then (0 : Int32) else (1 : Int32)) → ps_At mX11_needShape (d + 7) 15 [(0, .ref x0), (1, .int x1), (2, .int x2), (3, .int x3), (4, .int x4), (5, .int x5), (6, .int x6)] [.int w3] g Q := by
    rintro _ rfl
    refine sX11_needShape_15 ?_
    have kJ8 : ∀ w7 : Int32, w7 = (if ¬ (x1 = (1 : Int32)) ∧ (¬ x1 = (2 : Int32)) then (0 : Int32) else (1 : Int32)) → ps_At mX11_needShape (d + 7) 32 [(0, .ref x0), (1, .int x1), (2, .int x2), (3, .int x3), (4, .int x4), (5, .int x5), (6, .int x6), (7, .int (if ¬ (x1 = (3 : Int32)) ∧ (¬ x1 = (4 : Int32)) then (0 : Int32) else (1 : Int32)))] [.int w7] g Q := by
      rintro _ rfl
      refine sX11_needShape_32 ?_
      refine ⟨by decide, ?_⟩
      replace h := q_tc_e h
      rcases h with ⟨E, g10, hv, rfl⟩ | ⟨v9, g10, hv, h⟩
      · exact rX11_range hv ⟨rfl, hk⟩
      refine rX11_range hv ?_
      replace h := q_tc_e h
      rcases h with ⟨E, g12, hv, rfl⟩ | ⟨v11, g12, hv, h⟩
      · exact rX11_range hv ⟨rfl, hk⟩
      refine rX11_range hv ?_
      have kJ16 : ∀ w15 : Int32, w15 = (if ¬ (¬ (if ¬ (x1 = (3 : Int32)) ∧ (¬ x1 = (4 : Int32)) then (0 : Int32) else (1 : Int32)) = 0) ∧ (¬ x1 = (6 : Int32)) then (-100 : Int32) else (0 : Int32)) → ps_At mX11_needShape (d + 7) 65 [(0, .ref x0), (1, .int x1), (4, .int x4), (5, .int x5), (6, .int x6), (7, .int (if ¬ (x1 = (3 : Int32)) ∧ (¬ x1 = (4 : Int32)) then (0 : Int32) else (1 : Int32))), (8, .int (if ¬ (x1 = (1 : Int32)) ∧ (¬ x1 = (2 : Int32)) then (0 : Int32) else (1 : Int32)))] [.int w15, .int x3] g12 Q := by
        rintro _ rfl
        refine sX11_needShape_65 ?_
        refine And.intro (fun hc17 => ?_) (fun hc17 => ?_)
        · replace h := q_ifp (hc17) h
          refine sX11_needShape_82 ?_
          have kJ24 : ∀ w23 : Int32, w23 = (if ¬ x1 = (6 : Int32) then (100 : Int32) else (7 : Int32)) → ps_At mX11_needShape (d + 7) 95 [(0, .ref x0), (1, .int x1), (4, .int x4), (5, .int x5), (6, .int x6), (7, .int (if ¬ (x1 = (3 : Int32)) ∧ (¬ x1 = (4 : Int32)) then (0 : Int32) else (1 : Int32))), (8, .int (if ¬ (x1 = (1 : Int32)) ∧ (¬ x1 = (2 : Int32)) then (0 : Int32) else (1 : Int32)))] [.int w23, .int (if ¬ (¬ (if ¬ (x1 = (3 : Int32)) ∧ (¬ x1 = (4 : Int32)) then (0 : Int32) else (1 : Int32)) = 0) ∧ (¬ x1 = (6 : Int32)) then (-100 : Int32) else (0 : Int32)), .int x3] g12 Q := by
            rintro _ rfl
            exact ps_weak (pjX11_needShape_95 h hk) ⟨rfl, rfl, rfl, rfl, rfl, rfl, rfl, trivial⟩
          refine And.intro (fun hc22 => ?_) (fun hc22 => ?_)
          · refine sX11_needShape_93 ?_
            exact ps_weak (kJ24 _ (if_pos (hc22)).symm) ⟨rfl, rfl, rfl, rfl, rfl, rfl, rfl, trivial⟩
          · exact ps_weak (kJ24 _ (if_neg (hc22)).symm) ⟨rfl, rfl, rfl, rfl, rfl, rfl, rfl, trivial⟩
        · replace h := q_ifn (hc17) h
          replace h := q_be h
          obtain ⟨v60, hv, h⟩ := h
          replace hv := q_fR_e hv
          obtain ⟨_, cv60, dv60⟩ := hv
          replace h := q_be h
          obtain ⟨a61, ea61, h⟩ := h
          subst ea61
          replace h := q_be h
          obtain ⟨v62, hv, h⟩ := h
          replace hv := q_fI_e hv
          obtain ⟨_, cv62, dv62⟩ := hv
          refine ⟨⟨some _, rfl⟩, _, _, cv60, dv60, _, _, cv62, dv62, ?_⟩
          exact ps_weak (pjX11_needShape_95 h hk) ⟨rfl, rfl, rfl, rfl, rfl, rfl, rfl, trivial⟩
      refine And.intro (fun hc13 => ?_) (fun hc13 => ?_)
      · refine sX11_needShape_59 ?_
        exact ps_weak (kJ16 _ (if_neg (fun z => z.1 hc13)).symm) ⟨rfl, rfl, rfl, rfl, rfl, rfl, rfl, trivial⟩
      · refine And.intro (fun hc14 => ?_) (fun hc14 => ?_)
        · refine sX11_needShape_63 ?_
          exact ps_weak (kJ16 _ (if_pos (⟨hc13, hc14⟩)).symm) ⟨rfl, rfl, rfl, rfl, rfl, rfl, rfl, trivial⟩
        · refine sX11_needShape_59 ?_
          exact ps_weak (kJ16 _ (if_neg (fun z => hc14 z.2)).symm) ⟨rfl, rfl, rfl, rfl, rfl, rfl, rfl, trivial⟩
    refine ⟨by decide, ?_⟩
    refine And.intro (fun hc5 => ?_) (fun hc5 => ?_)
    · refine sX11_needShape_27 ?_
      exact ps_weak (kJ8 _ (if_neg (fun z => z.1 hc5)).symm) ⟨rfl, rfl, rfl, rfl, rfl, rfl, rfl, rfl, trivial⟩
    · refine And.intro (fun hc6 => ?_) (fun hc6 => ?_)
      · refine sX11_needShape_31 ?_
        exact ps_weak (kJ8 _ (if_pos (⟨hc5, hc6⟩)).symm) ⟨rfl, rfl, rfl, rfl, rfl, rfl, rfl, rfl, trivial⟩
      · refine sX11_needShape_27 ?_
        exact ps_weak (kJ8 _ (if_neg (fun z => hc6 z.2)).symm) ⟨rfl, rfl, rfl, rfl, rfl, rfl, rfl, rfl, trivial⟩
  refine And.intro (fun hc1 => ?_) (fun hc1 => ?_)
  · refine sX11_needShape_10 ?_
    exact ps_weak (kJ4 _ (if_neg (fun z => z.1 hc1)).symm) ⟨rfl, rfl, rfl, rfl, rfl, rfl, rfl, trivial⟩
  · refine And.intro (fun hc2 => ?_) (fun hc2 => ?_)
    · refine sX11_needShape_14 ?_
      exact ps_weak (kJ4 _ (if_pos (⟨hc1, hc2⟩)).symm) ⟨rfl, rfl, rfl, rfl, rfl, rfl, rfl, trivial⟩
    · refine sX11_needShape_10 ?_
      exact ps_weak (kJ4 _ (if_neg (fun z => hc2 z.2)).symm) ⟨rfl, rfl, rfl, rfl, rfl, rfl, rfl, trivial⟩
noncomputable def bX0_box_15 (x0 : Nat) (x1 : Int32) (x2 : Int32) (x3 : Int32) (x4 : Int32) (x5 : Int32) (x6 : Int32) (g : ps_G) : Option ((Int32 × ps_G) ⊕ (ps_G)) := Option.bind (q_fI 0 0 g x0) fun v3 => if v3 ≤ x6 then (some (.inr g)) else (Option.bind (q_fR 0 3 g x0) fun v6 => Option.bind (v6) fun a7 => Option.bind (q_fI 0 0 g x0) fun v8 => Option.bind (q_wI g a7 ((x5 * v8) + x6) (if (x6 < x1) ∨ (((x1 + x3) ≤ x6) ∨ ((x5 < x2) ∨ ((x2 + x4) ≤ x5))) then (0 : Int32) else (255 : Int32))) fun g15 => some (.inl (x6 + (1 : Int32), g15)))
theorem pbX0_box_15 {d : Nat} {Q : ps_Rs → ps_G → Prop}  {x0 : Nat} {x1 : Int32} {x2 : Int32} {x3 : Int32} {x4 : Int32} {x5 : Int32} {x6 : Int32} {g : ps_G} {x : (Int32 × ps_G) ⊕ (ps_G)} (h : bX0_box_15 x0 x1 x2 x3 x4 x5 x6 g = some x) (hh : ∀ s' : Int32 × ps_G, x = .inl s' → ps_At mX0_box d 15 [(0, .ref x0), (1, .int x1), (2, .int x2), (3, .int x3), (4, .int x4), (5, .int x5), (6, .int s'.1)] [] s'.2 Q) (he : ∀ r' : ps_G, x = .inr r' → ps_At mX0_box d 81 [(0, .ref x0), (1, .int x1), (2, .int x2), (3, .int x3), (4, .int x4), (5, .int x5)] [] r' Q) : ps_At mX0_box d 15 [(0, .ref x0), (1, .int x1), (2, .int x2), (3, .int x3), (4, .int x4), (5, .int x5), (6, .int x6)] [] g Q := by
  unfold bX0_box_15 at h
  refine sX0_box_15 ?_
  replace h := q_be h
  obtain ⟨v3, hv, h⟩ := h
  replace hv := q_fI_e hv
  obtain ⟨_, cv3, dv3⟩ := hv
  refine ⟨⟨some _, rfl⟩, _, _, cv3, dv3, ?_⟩
  refine And.intro (fun hc4 => ?_) (fun hc4 => ?_)
  · replace h := q_ifp (hc4) h
    exact ps_weak (he g (Option.some.inj h).symm) ⟨rfl, rfl, rfl, rfl, rfl, rfl, trivial⟩
  · replace h := q_ifn (hc4) h
    replace h := q_be h
    obtain ⟨v6, hv, h⟩ := h
    replace hv := q_fR_e hv
    obtain ⟨_, cv6, dv6⟩ := hv
    replace h := q_be h
    obtain ⟨a7, ea7, h⟩ := h
    subst ea7
    replace h := q_be h
    obtain ⟨v8, hv, h⟩ := h
    replace hv := q_fI_e hv
    obtain ⟨_, cv8, dv8⟩ := hv
    have kJ14 : ∀ w13 : Int32, w13 = (if (x6 < x1) ∨ (((x1 + x3) ≤ x6) ∨ ((x5 < x2) ∨ ((x2 + x4) ≤ x5))) then (0 : Int32) else (255 : Int32)) → ps_At mX0_box d 74 [(0, .ref x0), (1, .int x1), (2, .int x2), (3, .int x3), (4, .int x4), (5, .int x5), (6, .int x6)] [.int w13, .int ((x5 * v8) + x6), .ref a7] g Q := by
      rintro _ rfl
      refine sX0_box_74 ?_
      replace h := q_be h
      obtain ⟨g15, hv, h⟩ := h
      replace hv := q_wI_e hv
      obtain ⟨_, _, cg15, pg15, ig15, yg15⟩ := hv
      refine ⟨_, _, cg15, pg15, ig15, _, yg15, by decide, ?_⟩
      exact ps_weak (hh (x6 + (1 : Int32), g15) (Option.some.inj h).symm) ⟨rfl, rfl, rfl, rfl, rfl, rfl, rfl, trivial⟩
    refine ⟨⟨some _, rfl⟩, _, _, cv6, dv6, ⟨some _, rfl⟩, _, _, cv8, dv8, ?_⟩
    refine And.intro (fun hc9 => ?_) (fun hc9 => ?_)
    · refine sX0_box_73 ?_
      exact ps_weak (kJ14 _ (if_pos (Or.inl hc9)).symm) ⟨rfl, rfl, rfl, rfl, rfl, rfl, rfl, trivial⟩
    · refine And.intro (fun hc10 => ?_) (fun hc10 => ?_)
      · refine sX0_box_73 ?_
        exact ps_weak (kJ14 _ (if_pos (Or.inr (Or.inl hc10))).symm) ⟨rfl, rfl, rfl, rfl, rfl, rfl, rfl, trivial⟩
      · refine And.intro (fun hc11 => ?_) (fun hc11 => ?_)
        · refine sX0_box_73 ?_
          exact ps_weak (kJ14 _ (if_pos (Or.inr (Or.inr (Or.inl hc11)))).symm) ⟨rfl, rfl, rfl, rfl, rfl, rfl, rfl, trivial⟩
        · refine And.intro (fun hc12 => ?_) (fun hc12 => ?_)
          · refine sX0_box_73 ?_
            exact ps_weak (kJ14 _ (if_pos (Or.inr (Or.inr (Or.inr (hc12))))).symm) ⟨rfl, rfl, rfl, rfl, rfl, rfl, rfl, trivial⟩
          · exact ps_weak (kJ14 _ (if_neg (not_or.mpr ⟨hc9, not_or.mpr ⟨hc10, not_or.mpr ⟨hc11, hc12⟩⟩⟩)).symm) ⟨rfl, rfl, rfl, rfl, rfl, rfl, rfl, trivial⟩
noncomputable def bX0_box_3 (x0 : Nat) (x1 : Int32) (x2 : Int32) (x3 : Int32) (x4 : Int32) (x5 : Int32) (g : ps_G) : Option ((Int32 × ps_G) ⊕ (ps_G)) := Option.bind (q_fI 0 1 g x0) fun v1 => if v1 ≤ x5 then (some (.inr g)) else (Option.bind (q_lp (fun s => bX0_box_15 x0 x1 x2 x3 x4 x5 s.1 s.2) ((0 : Int32), g)) fun s18 => some (.inl (x5 + (1 : Int32), s18)))
theorem pbX0_box_3 {d : Nat} {Q : ps_Rs → ps_G → Prop}  {x0 : Nat} {x1 : Int32} {x2 : Int32} {x3 : Int32} {x4 : Int32} {x5 : Int32} {g : ps_G} {x : (Int32 × ps_G) ⊕ (ps_G)} (h : bX0_box_3 x0 x1 x2 x3 x4 x5 g = some x) (hh : ∀ s' : Int32 × ps_G, x = .inl s' → ps_At mX0_box d 3 [(0, .ref x0), (1, .int x1), (2, .int x2), (3, .int x3), (4, .int x4), (5, .int s'.1)] [] s'.2 Q) (he : ∀ r' : ps_G, x = .inr r' → ps_At mX0_box d 87 [] [] r' Q) : ps_At mX0_box d 3 [(0, .ref x0), (1, .int x1), (2, .int x2), (3, .int x3), (4, .int x4), (5, .int x5)] [] g Q := by
  unfold bX0_box_3 at h
  refine sX0_box_3 ?_
  replace h := q_be h
  obtain ⟨v1, hv, h⟩ := h
  replace hv := q_fI_e hv
  obtain ⟨_, cv1, dv1⟩ := hv
  refine ⟨⟨some _, rfl⟩, _, _, cv1, dv1, ?_⟩
  refine And.intro (fun hc2 => ?_) (fun hc2 => ?_)
  · replace h := q_ifp (hc2) h
    exact ps_weak (he g (Option.some.inj h).symm) trivial
  · replace h := q_ifn (hc2) h
    refine ⟨by decide, ?_⟩
    replace h := q_be h
    obtain ⟨s18, hl, h⟩ := h
    refine ps_weak (q_lp_ok hl (fun s => ps_At mX0_box d 15 [(0, .ref x0), (1, .int x1), (2, .int x2), (3, .int x3), (4, .int x4), (5, .int x5), (6, .int s.1)] [] s.2 Q) (fun r => ps_At mX0_box d 81 [(0, .ref x0), (1, .int x1), (2, .int x2), (3, .int x3), (4, .int x4), (5, .int x5)] [] r Q) (fun s x hb hh he => pbX0_box_15 hb hh he) ?_) ⟨rfl, rfl, rfl, rfl, rfl, rfl, rfl, trivial⟩
    refine (?_ : ps_At mX0_box d 81 [(0, .ref x0), (1, .int x1), (2, .int x2), (3, .int x3), (4, .int x4), (5, .int x5)] [] s18 Q)
    refine sX0_box_81 ?_
    refine ⟨by decide, ?_⟩
    exact ps_weak (hh (x5 + (1 : Int32), s18) (Option.some.inj h).symm) ⟨rfl, rfl, rfl, rfl, rfl, rfl, trivial⟩
noncomputable def fX0_box (g : ps_G) (x0 : Nat) (x1 : Int32) (x2 : Int32) (x3 : Int32) (x4 : Int32) : Option (ps_G) := Option.bind (q_lp (fun s => bX0_box_3 x0 x1 x2 x3 x4 s.1 s.2) ((0 : Int32), g)) fun s21 => some s21
theorem rX0_box {d : Nat} {Q : ps_Rs → ps_G → Prop} {g : ps_G} {x0 : Nat} {x1 : Int32} {x2 : Int32} {x3 : Int32} {x4 : Int32} {r : ps_G} (h : fX0_box g x0 x1 x2 x3 x4 = some r) (hk : Q (.inl none) r) : ps_Ok mX0_box d [.ref x0, .int x1, .int x2, .int x3, .int x4] g Q := by
  unfold fX0_box at h
  refine sX0_box_0 ?_
  refine ⟨by decide, ?_⟩
  replace h := q_be h
  obtain ⟨s21, hl, h⟩ := h
  refine ps_weak (q_lp_ok hl (fun s => ps_At mX0_box d 3 [(0, .ref x0), (1, .int x1), (2, .int x2), (3, .int x3), (4, .int x4), (5, .int s.1)] [] s.2 Q) (fun r => ps_At mX0_box d 87 [] [] r Q) (fun s x hb hh he => pbX0_box_3 hb hh he) ?_) ⟨rfl, rfl, rfl, rfl, rfl, rfl, trivial⟩
  refine (?_ : ps_At mX0_box d 87 [] [] s21 Q)
  refine sX0_box_87 ?_
  cases h
  exact ⟨rfl, rfl, hk⟩
noncomputable def jX0_ellipse_156_30 (g : ps_G) (x0 : Nat) (x1 : Int32) (x2 : Int32) (x3 : Int32) (x4 : Int32) (x5 : Int32) (x6 : Int32) (x8 : Int32) (k0 : Int32) (k1 : Int32) : Option ((Int32 × Int32) ⊕ (Int32)) := some (.inl (k0 + k1, x8 + (1 : Int32)))
theorem pjX0_ellipse_156_30 {d : Nat} {Q : ps_Rs → ps_G → Prop} {g : ps_G} {x0 : Nat} {x1 : Int32} {x2 : Int32} {x3 : Int32} {x4 : Int32} {x5 : Int32} {x6 : Int32} {x8 : Int32} {k0 : Int32} {k1 : Int32} {x : (Int32 × Int32) ⊕ (Int32)} (h : jX0_ellipse_156_30 g x0 x1 x2 x3 x4 x5 x6 x8 k0 k1 = some x) (hh : ∀ s' : Int32 × Int32, x = .inl s' → ps_At mX0_ellipse d 30 [(0, .ref x0), (1, .int x1), (2, .int x2), (3, .int x3), (4, .int x4), (5, .int x5), (6, .int x6), (7, .int s'.1), (8, .int s'.2)] [] g Q) (he : ∀ r' : Int32, x = .inr r' → ps_At mX0_ellipse d 165 [(0, .ref x0), (1, .int x1), (2, .int x2), (3, .int x3), (4, .int x4), (5, .int x5), (6, .int x6), (7, .int r')] [] g Q) : ps_At mX0_ellipse d 156 [(0, .ref x0), (1, .int x1), (2, .int x2), (3, .int x3), (4, .int x4), (5, .int x5), (6, .int x6), (8, .int x8)] [.int k1, .int k0] g Q := by
  unfold jX0_ellipse_156_30 at h
  refine sX0_ellipse_156 ?_
  refine ⟨by decide, by decide, ?_⟩
  exact ps_weak (hh (k0 + k1, x8 + (1 : Int32)) (Option.some.inj h).symm) ⟨rfl, rfl, rfl, rfl, rfl, rfl, rfl, rfl, rfl, trivial⟩
noncomputable def jX0_ellipse_155_30 (g : ps_G) (x0 : Nat) (x1 : Int32) (x2 : Int32) (x3 : Int32) (x4 : Int32) (x5 : Int32) (x6 : Int32) (x8 : Int32) (k0 : Int32) : Option ((Int32 × Int32) ⊕ (Int32)) := jX0_ellipse_156_30 g x0 x1 x2 x3 x4 x5 x6 x8 k0 (0 : Int32)
theorem pjX0_ellipse_155_30 {d : Nat} {Q : ps_Rs → ps_G → Prop} {g : ps_G} {x0 : Nat} {x1 : Int32} {x2 : Int32} {x3 : Int32} {x4 : Int32} {x5 : Int32} {x6 : Int32} {x8 : Int32} {k0 : Int32} {x : (Int32 × Int32) ⊕ (Int32)} (h : jX0_ellipse_155_30 g x0 x1 x2 x3 x4 x5 x6 x8 k0 = some x) (hh : ∀ s' : Int32 × Int32, x = .inl s' → ps_At mX0_ellipse d 30 [(0, .ref x0), (1, .int x1), (2, .int x2), (3, .int x3), (4, .int x4), (5, .int x5), (6, .int x6), (7, .int s'.1), (8, .int s'.2)] [] g Q) (he : ∀ r' : Int32, x = .inr r' → ps_At mX0_ellipse d 165 [(0, .ref x0), (1, .int x1), (2, .int x2), (3, .int x3), (4, .int x4), (5, .int x5), (6, .int x6), (7, .int r')] [] g Q) : ps_At mX0_ellipse d 155 [(0, .ref x0), (1, .int x1), (2, .int x2), (3, .int x3), (4, .int x4), (5, .int x5), (6, .int x6), (8, .int x8)] [.int k0] g Q := by
  unfold jX0_ellipse_155_30 at h
  refine sX0_ellipse_155 ?_
  exact ps_weak (pjX0_ellipse_156_30 h hh he) ⟨rfl, rfl, rfl, rfl, rfl, rfl, rfl, rfl, trivial⟩
noncomputable def bX0_ellipse_30 (g : ps_G) (x0 : Nat) (x1 : Int32) (x2 : Int32) (x3 : Int32) (x4 : Int32) (x5 : Int32) (x6 : Int32) (x7 : Int32) (x8 : Int32) : Option ((Int32 × Int32) ⊕ (Int32)) := if (16 : Int32) ≤ x8 then (some (.inr x7)) else (if (x3 ≤ 0) ∨ (x4 ≤ 0) then (jX0_ellipse_155_30 g x0 x1 x2 x3 x4 x5 x6 x8 x7) else (if 0 < (lg_cmp ((((Int32.toInt64 ((((((8 : Int32) * x6) + ((2 : Int32) * (x8 &&& (3 : Int32)))) + (1 : Int32)) - ((8 : Int32) * x1)) - ((4 : Int32) * x3))) * (Int32.toInt64 ((((((8 : Int32) * x6) + ((2 : Int32) * (x8 &&& (3 : Int32)))) + (1 : Int32)) - ((8 : Int32) * x1)) - ((4 : Int32) * x3)))) * (((16 : Int64) * (Int32.toInt64 x4)) * (Int32.toInt64 x4))) + (((Int32.toInt64 ((((((8 : Int32) * x5) + ((2 : Int32) * (q_shr x8 (2 : Int32)))) + (1 : Int32)) - ((8 : Int32) * x2)) - ((4 : Int32) * x4))) * (Int32.toInt64 ((((((8 : Int32) * x5) + ((2 : Int32) * (q_shr x8 (2 : Int32)))) + (1 : Int32)) - ((8 : Int32) * x2)) - ((4 : Int32) * x4)))) * (((16 : Int64) * (Int32.toInt64 x3)) * (Int32.toInt64 x3)))) ((((16 : Int64) * (Int32.toInt64 x3)) * (Int32.toInt64 x3)) * (((16 : Int64) * (Int32.toInt64 x4)) * (Int32.toInt64 x4)))) then (jX0_ellipse_155_30 g x0 x1 x2 x3 x4 x5 x6 x8 x7) else (jX0_ellipse_156_30 g x0 x1 x2 x3 x4 x5 x6 x8 x7 (1 : Int32))))
theorem pbX0_ellipse_30 {d : Nat} {Q : ps_Rs → ps_G → Prop} {g : ps_G} {x0 : Nat} {x1 : Int32} {x2 : Int32} {x3 : Int32} {x4 : Int32} {x5 : Int32} {x6 : Int32} {x7 : Int32} {x8 : Int32} {x : (Int32 × Int32) ⊕ (Int32)} (h : bX0_ellipse_30 g x0 x1 x2 x3 x4 x5 x6 x7 x8 = some x) (hh : ∀ s' : Int32 × Int32, x = .inl s' → ps_At mX0_ellipse d 30 [(0, .ref x0), (1, .int x1), (2, .int x2), (3, .int x3), (4, .int x4), (5, .int x5), (6, .int x6), (7, .int s'.1), (8, .int s'.2)] [] g Q) (he : ∀ r' : Int32, x = .inr r' → ps_At mX0_ellipse d 165 [(0, .ref x0), (1, .int x1), (2, .int x2), (3, .int x3), (4, .int x4), (5, .int x5), (6, .int x6), (7, .int r')] [] g Q) : ps_At mX0_ellipse d 30 [(0, .ref x0), (1, .int x1), (2, .int x2), (3, .int x3), (4, .int x4), (5, .int x5), (6, .int x6), (7, .int x7), (8, .int x8)] [] g Q := by
  unfold bX0_ellipse_30 at h
  refine sX0_ellipse_30 ?_
  refine And.intro (fun hc5 => ?_) (fun hc5 => ?_)
  · replace h := q_ifp (hc5) h
    exact ps_weak (he x7 (Option.some.inj h).symm) ⟨rfl, rfl, rfl, rfl, rfl, rfl, rfl, rfl, trivial⟩
  · replace h := q_ifn (hc5) h
    have kT13 : (jX0_ellipse_155_30 g x0 x1 x2 x3 x4 x5 x6 x8 x7) = some x → ps_At mX0_ellipse d 155 [(0, .ref x0), (1, .int x1), (2, .int x2), (3, .int x3), (4, .int x4), (5, .int x5), (6, .int x6), (8, .int x8)] [.int x7] g Q := fun h => by
      exact ps_weak (pjX0_ellipse_155_30 h hh he) ⟨rfl, rfl, rfl, rfl, rfl, rfl, rfl, rfl, trivial⟩
    refine ⟨by decide, by decide, by decide, by decide, ?_⟩
    refine And.intro (fun hc8 => ?_) (fun hc8 => ?_)
    · exact ps_weak (kT13 (q_ifp (Or.inl hc8) h)) ⟨rfl, rfl, rfl, rfl, rfl, rfl, rfl, rfl, trivial⟩
    · refine And.intro (fun hc9 => ?_) (fun hc9 => ?_)
      · exact ps_weak (kT13 (q_ifp (Or.inr (hc9)) h)) ⟨rfl, rfl, rfl, rfl, rfl, rfl, rfl, rfl, trivial⟩
      · replace h := q_ifn (not_or.mpr ⟨hc8, hc9⟩) h
        refine And.intro (fun hc10 => ?_) (fun hc10 => ?_)
        · replace h := q_ifp (hc10) h
          exact ps_weak (pjX0_ellipse_155_30 h hh he) ⟨rfl, rfl, rfl, rfl, rfl, rfl, rfl, rfl, trivial⟩
        · replace h := q_ifn (hc10) h
          exact ps_weak (pjX0_ellipse_156_30 h hh he) ⟨rfl, rfl, rfl, rfl, rfl, rfl, rfl, rfl, trivial⟩
noncomputable def bX0_ellipse_15 (x0 : Nat) (x1 : Int32) (x2 : Int32) (x3 : Int32) (x4 : Int32) (x5 : Int32) (x6 : Int32) (g : ps_G) : Option ((Int32 × ps_G) ⊕ (ps_G)) := Option.bind (q_fI 0 0 g x0) fun v3 => if v3 ≤ x6 then (some (.inr g)) else (Option.bind (q_lp (fun s => bX0_ellipse_30 g x0 x1 x2 x3 x4 x5 x6 s.1 s.2) ((0 : Int32), (0 : Int32))) fun s17 => Option.bind (q_fR 0 3 g x0) fun v18 => Option.bind (v18) fun a19 => Option.bind (q_fI 0 0 g x0) fun v20 => Option.bind (q_wI g a19 ((x5 * v20) + x6) ((((255 : Int32) * s17) + (8 : Int32)) / (16 : Int32))) fun g21 => some (.inl (x6 + (1 : Int32), g21)))
theorem pbX0_ellipse_15 {d : Nat} {Q : ps_Rs → ps_G → Prop}  {x0 : Nat} {x1 : Int32} {x2 : Int32} {x3 : Int32} {x4 : Int32} {x5 : Int32} {x6 : Int32} {g : ps_G} {x : (Int32 × ps_G) ⊕ (ps_G)} (h : bX0_ellipse_15 x0 x1 x2 x3 x4 x5 x6 g = some x) (hh : ∀ s' : Int32 × ps_G, x = .inl s' → ps_At mX0_ellipse d 15 [(0, .ref x0), (1, .int x1), (2, .int x2), (3, .int x3), (4, .int x4), (5, .int x5), (6, .int s'.1)] [] s'.2 Q) (he : ∀ r' : ps_G, x = .inr r' → ps_At mX0_ellipse d 198 [(0, .ref x0), (1, .int x1), (2, .int x2), (3, .int x3), (4, .int x4), (5, .int x5)] [] r' Q) : ps_At mX0_ellipse d 15 [(0, .ref x0), (1, .int x1), (2, .int x2), (3, .int x3), (4, .int x4), (5, .int x5), (6, .int x6)] [] g Q := by
  unfold bX0_ellipse_15 at h
  refine sX0_ellipse_15 ?_
  replace h := q_be h
  obtain ⟨v3, hv, h⟩ := h
  replace hv := q_fI_e hv
  obtain ⟨_, cv3, dv3⟩ := hv
  refine ⟨⟨some _, rfl⟩, _, _, cv3, dv3, ?_⟩
  refine And.intro (fun hc4 => ?_) (fun hc4 => ?_)
  · replace h := q_ifp (hc4) h
    exact ps_weak (he g (Option.some.inj h).symm) ⟨rfl, rfl, rfl, rfl, rfl, rfl, trivial⟩
  · replace h := q_ifn (hc4) h
    refine ⟨by decide, by decide, ?_⟩
    replace h := q_be h
    obtain ⟨s17, hl, h⟩ := h
    refine ps_weak (q_lp_ok hl (fun s => ps_At mX0_ellipse d 30 [(0, .ref x0), (1, .int x1), (2, .int x2), (3, .int x3), (4, .int x4), (5, .int x5), (6, .int x6), (7, .int s.1), (8, .int s.2)] [] g Q) (fun r => ps_At mX0_ellipse d 165 [(0, .ref x0), (1, .int x1), (2, .int x2), (3, .int x3), (4, .int x4), (5, .int x5), (6, .int x6), (7, .int r)] [] g Q) (fun s x hb hh he => pbX0_ellipse_30 hb hh he) ?_) ⟨rfl, rfl, rfl, rfl, rfl, rfl, rfl, rfl, rfl, trivial⟩
    refine (?_ : ps_At mX0_ellipse d 165 [(0, .ref x0), (1, .int x1), (2, .int x2), (3, .int x3), (4, .int x4), (5, .int x5), (6, .int x6), (7, .int s17)] [] g Q)
    refine sX0_ellipse_165 ?_
    replace h := q_be h
    obtain ⟨v18, hv, h⟩ := h
    replace hv := q_fR_e hv
    obtain ⟨_, cv18, dv18⟩ := hv
    replace h := q_be h
    obtain ⟨a19, ea19, h⟩ := h
    subst ea19
    replace h := q_be h
    obtain ⟨v20, hv, h⟩ := h
    replace hv := q_fI_e hv
    obtain ⟨_, cv20, dv20⟩ := hv
    replace h := q_be h
    obtain ⟨g21, hv, h⟩ := h
    replace hv := q_wI_e hv
    obtain ⟨_, _, cg21, pg21, ig21, yg21⟩ := hv
    refine ⟨⟨some _, rfl⟩, _, _, cv18, dv18, ⟨some _, rfl⟩, _, _, cv20, dv20, by decide, _, rfl, _, _, cg21, pg21, ig21, _, yg21, by decide, ?_⟩
    exact ps_weak (hh (x6 + (1 : Int32), g21) (Option.some.inj h).symm) ⟨rfl, rfl, rfl, rfl, rfl, rfl, rfl, trivial⟩
noncomputable def bX0_ellipse_3 (x0 : Nat) (x1 : Int32) (x2 : Int32) (x3 : Int32) (x4 : Int32) (x5 : Int32) (g : ps_G) : Option ((Int32 × ps_G) ⊕ (ps_G)) := Option.bind (q_fI 0 1 g x0) fun v1 => if v1 ≤ x5 then (some (.inr g)) else (Option.bind (q_lp (fun s => bX0_ellipse_15 x0 x1 x2 x3 x4 x5 s.1 s.2) ((0 : Int32), g)) fun s24 => some (.inl (x5 + (1 : Int32), s24)))
theorem pbX0_ellipse_3 {d : Nat} {Q : ps_Rs → ps_G → Prop}  {x0 : Nat} {x1 : Int32} {x2 : Int32} {x3 : Int32} {x4 : Int32} {x5 : Int32} {g : ps_G} {x : (Int32 × ps_G) ⊕ (ps_G)} (h : bX0_ellipse_3 x0 x1 x2 x3 x4 x5 g = some x) (hh : ∀ s' : Int32 × ps_G, x = .inl s' → ps_At mX0_ellipse d 3 [(0, .ref x0), (1, .int x1), (2, .int x2), (3, .int x3), (4, .int x4), (5, .int s'.1)] [] s'.2 Q) (he : ∀ r' : ps_G, x = .inr r' → ps_At mX0_ellipse d 204 [] [] r' Q) : ps_At mX0_ellipse d 3 [(0, .ref x0), (1, .int x1), (2, .int x2), (3, .int x3), (4, .int x4), (5, .int x5)] [] g Q := by
  unfold bX0_ellipse_3 at h
  refine sX0_ellipse_3 ?_
  replace h := q_be h
  obtain ⟨v1, hv, h⟩ := h
  replace hv := q_fI_e hv
  obtain ⟨_, cv1, dv1⟩ := hv
  refine ⟨⟨some _, rfl⟩, _, _, cv1, dv1, ?_⟩
  refine And.intro (fun hc2 => ?_) (fun hc2 => ?_)
  · replace h := q_ifp (hc2) h
    exact ps_weak (he g (Option.some.inj h).symm) trivial
  · replace h := q_ifn (hc2) h
    refine ⟨by decide, ?_⟩
    replace h := q_be h
    obtain ⟨s24, hl, h⟩ := h
    refine ps_weak (q_lp_ok hl (fun s => ps_At mX0_ellipse d 15 [(0, .ref x0), (1, .int x1), (2, .int x2), (3, .int x3), (4, .int x4), (5, .int x5), (6, .int s.1)] [] s.2 Q) (fun r => ps_At mX0_ellipse d 198 [(0, .ref x0), (1, .int x1), (2, .int x2), (3, .int x3), (4, .int x4), (5, .int x5)] [] r Q) (fun s x hb hh he => pbX0_ellipse_15 hb hh he) ?_) ⟨rfl, rfl, rfl, rfl, rfl, rfl, rfl, trivial⟩
    refine (?_ : ps_At mX0_ellipse d 198 [(0, .ref x0), (1, .int x1), (2, .int x2), (3, .int x3), (4, .int x4), (5, .int x5)] [] s24 Q)
    refine sX0_ellipse_198 ?_
    refine ⟨by decide, ?_⟩
    exact ps_weak (hh (x5 + (1 : Int32), s24) (Option.some.inj h).symm) ⟨rfl, rfl, rfl, rfl, rfl, rfl, trivial⟩
noncomputable def fX0_ellipse (g : ps_G) (x0 : Nat) (x1 : Int32) (x2 : Int32) (x3 : Int32) (x4 : Int32) : Option (ps_G) := Option.bind (q_lp (fun s => bX0_ellipse_3 x0 x1 x2 x3 x4 s.1 s.2) ((0 : Int32), g)) fun s27 => some s27
theorem rX0_ellipse {d : Nat} {Q : ps_Rs → ps_G → Prop} {g : ps_G} {x0 : Nat} {x1 : Int32} {x2 : Int32} {x3 : Int32} {x4 : Int32} {r : ps_G} (h : fX0_ellipse g x0 x1 x2 x3 x4 = some r) (hk : Q (.inl none) r) : ps_Ok mX0_ellipse d [.ref x0, .int x1, .int x2, .int x3, .int x4] g Q := by
  unfold fX0_ellipse at h
  refine sX0_ellipse_0 ?_
  refine ⟨by decide, ?_⟩
  replace h := q_be h
  obtain ⟨s27, hl, h⟩ := h
  refine ps_weak (q_lp_ok hl (fun s => ps_At mX0_ellipse d 3 [(0, .ref x0), (1, .int x1), (2, .int x2), (3, .int x3), (4, .int x4), (5, .int s.1)] [] s.2 Q) (fun r => ps_At mX0_ellipse d 204 [] [] r Q) (fun s x hb hh he => pbX0_ellipse_3 hb hh he) ?_) ⟨rfl, rfl, rfl, rfl, rfl, rfl, trivial⟩
  refine (?_ : ps_At mX0_ellipse d 204 [] [] s27 Q)
  refine sX0_ellipse_204 ?_
  cases h
  exact ⟨rfl, rfl, hk⟩
noncomputable def bX0_like_3 (g : ps_G) (x0 : Int32) (x1 : Int32) (x2 : Int32) (x3 : Int32) : Option ((Int32) ⊕ ((Unit) ⊕ (Int32))) := if x3 < 0 then (some (.inr (.inl ()))) else (if (fJ9_abs_0f7a4 (((q_shr x0 x3) &&& (255 : Int32)) - ((q_shr x1 x3) &&& (255 : Int32)))) ≤ x2 then (some (.inl (x3 + (-8 : Int32)))) else (some (.inr (.inr (0 : Int32)))))
theorem pbX0_like_3 {d : Nat} {Q : ps_Rs → ps_G → Prop} {g : ps_G} {x0 : Int32} {x1 : Int32} {x2 : Int32} {x3 : Int32} {x : (Int32) ⊕ ((Unit) ⊕ (Int32))} (h : bX0_like_3 g x0 x1 x2 x3 = some x) (hh : ∀ s' : Int32, x = .inl s' → ps_At mX0_like (d + 1) 3 [(0, .int x0), (1, .int x1), (2, .int x2), (3, .int s')] [] g Q) (he : ∀ r' : Unit, x = .inr (.inl r') → ps_At mX0_like (d + 1) 37 [] [] g Q) (hr : ∀ v' : Int32, x = .inr (.inr v') → Q (.inl (some (.int v'))) g) : ps_At mX0_like (d + 1) 3 [(0, .int x0), (1, .int x1), (2, .int x2), (3, .int x3)] [] g Q := by
  unfold bX0_like_3 at h
  refine sX0_like_3 ?_
  refine And.intro (fun hc1 => ?_) (fun hc1 => ?_)
  · replace h := q_ifp (hc1) h
    exact ps_weak (he () (Option.some.inj h).symm) trivial
  · replace h := q_ifn (hc1) h
    refine rJ9_abs_0f7a4 rfl ?_
    refine And.intro (fun hc2 => ?_) (fun hc2 => ?_)
    · replace h := q_ifp (hc2) h
      refine sX0_like_31 ?_
      refine ⟨by decide, ?_⟩
      exact ps_weak (hh (x3 + (-8 : Int32)) (Option.some.inj h).symm) ⟨rfl, rfl, rfl, rfl, trivial⟩
    · replace h := q_ifn (hc2) h
      exact ⟨rfl, Or.inl rfl, hr (0 : Int32) (Option.some.inj h).symm⟩
noncomputable def fX0_like (g : ps_G) (x0 : Int32) (x1 : Int32) (x2 : Int32) : Option (Int32) := Option.bind (q_lp (fun s => bX0_like_3 g x0 x1 x2 s) (24 : Int32)) fun s7 => Sum.elim (fun r8 => some (1 : Int32)) (fun v9 => some v9) s7
theorem rX0_like {d : Nat} {Q : ps_Rs → ps_G → Prop} {g : ps_G} {x0 : Int32} {x1 : Int32} {x2 : Int32} {r : Int32} (h : fX0_like g x0 x1 x2 = some r) (hk : Q (.inl (some (.int r))) g) : ps_Ok mX0_like (d + 1) [.int x0, .int x1, .int x2] g Q := by
  unfold fX0_like at h
  refine sX0_like_0 ?_
  refine ⟨by decide, ?_⟩
  replace h := q_be h
  obtain ⟨s7, hl, h⟩ := h
  refine ps_weak (q_lp_ok hl (fun s => ps_At mX0_like (d + 1) 3 [(0, .int x0), (1, .int x1), (2, .int x2), (3, .int s)] [] g Q) (Sum.elim (fun r => ps_At mX0_like (d + 1) 37 [] [] g Q) (fun v => Q (.inl (some (.int v))) g)) (fun s x hb hh he => pbX0_like_3 hb hh (fun _ e => he _ e) (fun _ e => he _ e)) ?_) ⟨rfl, rfl, rfl, rfl, trivial⟩
  rcases s7 with r8 | v9
  · refine (?_ : ps_At mX0_like (d + 1) 37 [] [] g Q)
    refine sX0_like_37 ?_
    cases h
    exact ⟨rfl, Or.inr rfl, hk⟩
  · cases h
    exact hk
noncomputable def jX0_wand_252_101 (g : ps_G) (x0 : Nat) (x1 : Nat) (x4 : Int32) (x6 : Int32) (x7 : Int32) (x8 : Int32) (x9 : Int32) (x10 : Int32) (x11 : Int32) : Option ((Int32 × Int32 × ps_G) ⊕ (Int32 × ps_G)) := some (.inl (x7, x11 + (1 : Int32), g))
theorem pjX0_wand_252_101 {d : Nat} {Q : ps_Rs → ps_G → Prop} {g : ps_G} {x0 : Nat} {x1 : Nat} {x4 : Int32} {x6 : Int32} {x7 : Int32} {x8 : Int32} {x9 : Int32} {x10 : Int32} {x11 : Int32} {x : (Int32 × Int32 × ps_G) ⊕ (Int32 × ps_G)} (h : jX0_wand_252_101 g x0 x1 x4 x6 x7 x8 x9 x10 x11 = some x) (hh : ∀ s' : Int32 × Int32 × ps_G, x = .inl s' → ps_At mX0_wand (d + 2) 101 [(0, .ref x0), (1, .ref x1), (4, .int x4), (6, .int x6), (7, .int s'.1), (8, .int x8), (9, .int x9), (10, .int x10), (11, .int s'.2.1)] [] s'.2.2 Q) (he : ∀ r' : Int32 × ps_G, x = .inr r' → ps_At mX0_wand (d + 2) 258 [(0, .ref x0), (1, .ref x1), (4, .int x4), (6, .int x6), (7, .int r'.1), (8, .int x8)] [] r'.2 Q) : ps_At mX0_wand (d + 2) 252 [(0, .ref x0), (1, .ref x1), (4, .int x4), (6, .int x6), (7, .int x7), (8, .int x8), (9, .int x9), (10, .int x10), (11, .int x11)] [] g Q := by
  unfold jX0_wand_252_101 at h
  refine sX0_wand_252 ?_
  refine ⟨by decide, ?_⟩
  exact ps_weak (hh (x7, x11 + (1 : Int32), g) (Option.some.inj h).symm) ⟨rfl, rfl, rfl, rfl, rfl, rfl, rfl, rfl, rfl, trivial⟩
noncomputable def bX0_wand_101 (x0 : Nat) (x1 : Nat) (x4 : Int32) (x6 : Int32) (x8 : Int32) (x9 : Int32) (x10 : Int32) (x7 : Int32) (x11 : Int32) (g : ps_G) : Option ((Int32 × Int32 × ps_G) ⊕ (Int32 × ps_G)) := if (4 : Int32) ≤ x11 then (some (.inr (x7, g))) else (Option.bind (q_fI 0 0 g x0) fun v39 => if ((x9 + (if ¬ x11 = 0 then (if ¬ x11 = (1 : Int32) then (0 : Int32) else (1 : Int32)) else (-1 : Int32))) < 0) ∨ ((x10 + (if ¬ x11 = (2 : Int32) then (if ¬ x11 = (3 : Int32) then (0 : Int32) else (1 : Int32)) else (-1 : Int32))) < 0) then (jX0_wand_252_101 g x0 x1 x4 x6 x7 x8 x9 x10 x11) else (Option.bind (q_fI 0 0 g x0) fun v43 => if v43 ≤ (x9 + (if ¬ x11 = 0 then (if ¬ x11 = (1 : Int32) then (0 : Int32) else (1 : Int32)) else (-1 : Int32))) then (jX0_wand_252_101 g x0 x1 x4 x6 x7 x8 x9 x10 x11) else (Option.bind (q_fI 0 1 g x0) fun v46 => if v46 ≤ (x10 + (if ¬ x11 = (2 : Int32) then (if ¬ x11 = (3 : Int32) then (0 : Int32) else (1 : Int32)) else (-1 : Int32))) then (jX0_wand_252_101 g x0 x1 x4 x6 x7 x8 x9 x10 x11) else (Option.bind (q_fR 0 3 g x0) fun v49 => Option.bind (v49) fun a50 => Option.bind (q_aI g a50 (((x10 + (if ¬ x11 = (2 : Int32) then (if ¬ x11 = (3 : Int32) then (0 : Int32) else (1 : Int32)) else (-1 : Int32))) * v39) + (x9 + (if ¬ x11 = 0 then (if ¬ x11 = (1 : Int32) then (0 : Int32) else (1 : Int32)) else (-1 : Int32))))) fun v51 => if (¬ v51 = 0) ∨ ((576 : Int32) ≤ x7) then (jX0_wand_252_101 g x0 x1 x4 x6 x7 x8 x9 x10 x11) else (Option.bind (q_aI g x1 (((x10 + (if ¬ x11 = (2 : Int32) then (if ¬ x11 = (3 : Int32) then (0 : Int32) else (1 : Int32)) else (-1 : Int32))) * v39) + (x9 + (if ¬ x11 = 0 then (if ¬ x11 = (1 : Int32) then (0 : Int32) else (1 : Int32)) else (-1 : Int32))))) fun v55 => Option.bind (fX0_like g v55 x6 x4) fun v56 => if v56 = 0 then (jX0_wand_252_101 g x0 x1 x4 x6 x7 x8 x9 x10 x11) else (Option.bind (q_fR 0 3 g x0) fun v59 => Option.bind (v59) fun a60 => Option.bind (q_wI g a60 (((x10 + (if ¬ x11 = (2 : Int32) then (if ¬ x11 = (3 : Int32) then (0 : Int32) else (1 : Int32)) else (-1 : Int32))) * v39) + (x9 + (if ¬ x11 = 0 then (if ¬ x11 = (1 : Int32) then (0 : Int32) else (1 : Int32)) else (-1 : Int32)))) (255 : Int32)) fun g61 => Option.bind (q_fR 0 4 g61 x0) fun v62 => Option.bind (v62) fun a63 => Option.bind (q_wI g61 a63 x7 (((x10 + (if ¬ x11 = (2 : Int32) then (if ¬ x11 = (3 : Int32) then (0 : Int32) else (1 : Int32)) else (-1 : Int32))) * v39) + (x9 + (if ¬ x11 = 0 then (if ¬ x11 = (1 : Int32) then (0 : Int32) else (1 : Int32)) else (-1 : Int32))))) fun g64 => jX0_wand_252_101 g64 x0 x1 x4 x6 (x7 + (1 : Int32)) x8 x9 x10 x11))))))
theorem pbX0_wand_101 {d : Nat} {Q : ps_Rs → ps_G → Prop}  {x0 : Nat} {x1 : Nat} {x4 : Int32} {x6 : Int32} {x8 : Int32} {x9 : Int32} {x10 : Int32} {x7 : Int32} {x11 : Int32} {g : ps_G} {x : (Int32 × Int32 × ps_G) ⊕ (Int32 × ps_G)} (h : bX0_wand_101 x0 x1 x4 x6 x8 x9 x10 x7 x11 g = some x) (hh : ∀ s' : Int32 × Int32 × ps_G, x = .inl s' → ps_At mX0_wand (d + 2) 101 [(0, .ref x0), (1, .ref x1), (4, .int x4), (6, .int x6), (7, .int s'.1), (8, .int x8), (9, .int x9), (10, .int x10), (11, .int s'.2.1)] [] s'.2.2 Q) (he : ∀ r' : Int32 × ps_G, x = .inr r' → ps_At mX0_wand (d + 2) 258 [(0, .ref x0), (1, .ref x1), (4, .int x4), (6, .int x6), (7, .int r'.1), (8, .int x8)] [] r'.2 Q) : ps_At mX0_wand (d + 2) 101 [(0, .ref x0), (1, .ref x1), (4, .int x4), (6, .int x6), (7, .int x7), (8, .int x8), (9, .int x9), (10, .int x10), (11, .int x11)] [] g Q := by
  unfold bX0_wand_101 at h
  refine sX0_wand_101 ?_
  refine And.intro (fun hc25 => ?_) (fun hc25 => ?_)
  · replace h := q_ifp (hc25) h
    exact ps_weak (he (x7, g) (Option.some.inj h).symm) ⟨rfl, rfl, rfl, rfl, rfl, rfl, trivial⟩
  · replace h := q_ifn (hc25) h
    have kJ35 : ∀ w34 : Int32, w34 = (if ¬ x11 = 0 then (if ¬ x11 = (1 : Int32) then (0 : Int32) else (1 : Int32)) else (-1 : Int32)) → ps_At mX0_wand (d + 2) 129 [(0, .ref x0), (1, .ref x1), (4, .int x4), (6, .int x6), (7, .int x7), (8, .int x8), (9, .int x9), (10, .int x10), (11, .int x11)] [.int w34, .int x9] g Q := by
      rintro _ rfl
      refine sX0_wand_129 ?_
      have kJ38 : ∀ w37 : Int32, w37 = (if ¬ x11 = (2 : Int32) then (if ¬ x11 = (3 : Int32) then (0 : Int32) else (1 : Int32)) else (-1 : Int32)) → ps_At mX0_wand (d + 2) 155 [(0, .ref x0), (1, .ref x1), (4, .int x4), (6, .int x6), (7, .int x7), (8, .int x8), (9, .int x9), (10, .int x10), (11, .int x11), (12, .int (x9 + (if ¬ x11 = 0 then (if ¬ x11 = (1 : Int32) then (0 : Int32) else (1 : Int32)) else (-1 : Int32))))] [.int w37, .int x10] g Q := by
        rintro _ rfl
        refine sX0_wand_155 ?_
        replace h := q_be h
        obtain ⟨v39, hv, h⟩ := h
        replace hv := q_fI_e hv
        obtain ⟨_, cv39, dv39⟩ := hv
        have kT73 : (jX0_wand_252_101 g x0 x1 x4 x6 x7 x8 x9 x10 x11) = some x → ps_At mX0_wand (d + 2) 252 [(0, .ref x0), (1, .ref x1), (4, .int x4), (6, .int x6), (7, .int x7), (8, .int x8), (9, .int x9), (10, .int x10), (11, .int x11)] [] g Q := fun h => by
          exact ps_weak (pjX0_wand_252_101 h hh he) ⟨rfl, rfl, rfl, rfl, rfl, rfl, rfl, rfl, rfl, trivial⟩
        refine ⟨by decide, ⟨some _, rfl⟩, _, _, cv39, dv39, by decide, ?_⟩
        refine And.intro (fun hc40 => ?_) (fun hc40 => ?_)
        · exact ps_weak (kT73 (q_ifp (Or.inl hc40) h)) ⟨rfl, rfl, rfl, rfl, rfl, rfl, rfl, rfl, rfl, trivial⟩
        · refine And.intro (fun hc41 => ?_) (fun hc41 => ?_)
          · exact ps_weak (kT73 (q_ifp (Or.inr (hc41)) h)) ⟨rfl, rfl, rfl, rfl, rfl, rfl, rfl, rfl, rfl, trivial⟩
          · replace h := q_ifn (not_or.mpr ⟨hc40, hc41⟩) h
            replace h := q_be h
            obtain ⟨v43, hv, h⟩ := h
            replace hv := q_fI_e hv
            obtain ⟨_, cv43, dv43⟩ := hv
            refine ⟨⟨some _, rfl⟩, _, _, cv43, dv43, ?_⟩
            refine And.intro (fun hc44 => ?_) (fun hc44 => ?_)
            · replace h := q_ifp (hc44) h
              exact ps_weak (pjX0_wand_252_101 h hh he) ⟨rfl, rfl, rfl, rfl, rfl, rfl, rfl, rfl, rfl, trivial⟩
            · replace h := q_ifn (hc44) h
              replace h := q_be h
              obtain ⟨v46, hv, h⟩ := h
              replace hv := q_fI_e hv
              obtain ⟨_, cv46, dv46⟩ := hv
              refine ⟨⟨some _, rfl⟩, _, _, cv46, dv46, ?_⟩
              refine And.intro (fun hc47 => ?_) (fun hc47 => ?_)
              · replace h := q_ifp (hc47) h
                exact ps_weak (pjX0_wand_252_101 h hh he) ⟨rfl, rfl, rfl, rfl, rfl, rfl, rfl, rfl, rfl, trivial⟩
              · replace h := q_ifn (hc47) h
                replace h := q_be h
                obtain ⟨v49, hv, h⟩ := h
                replace hv := q_fR_e hv
                obtain ⟨_, cv49, dv49⟩ := hv
                replace h := q_be h
                obtain ⟨a50, ea50, h⟩ := h
                subst ea50
                replace h := q_be h
                obtain ⟨v51, hv, h⟩ := h
                replace hv := q_aI_e hv
                obtain ⟨_, _, cv51, iv51, yv51⟩ := hv
                have kT67 : (jX0_wand_252_101 g x0 x1 x4 x6 x7 x8 x9 x10 x11) = some x → ps_At mX0_wand (d + 2) 252 [(0, .ref x0), (1, .ref x1), (4, .int x4), (6, .int x6), (7, .int x7), (8, .int x8), (9, .int x9), (10, .int x10), (11, .int x11)] [] g Q := fun h => by
                  exact ps_weak (pjX0_wand_252_101 h hh he) ⟨rfl, rfl, rfl, rfl, rfl, rfl, rfl, rfl, rfl, trivial⟩
                refine ⟨⟨some _, rfl⟩, _, _, cv49, dv49, _, _, cv51, iv51, _, yv51, ?_⟩
                refine And.intro (fun hc52 => ?_) (fun hc52 => ?_)
                · exact ps_weak (kT67 (q_ifp (Or.inl hc52) h)) ⟨rfl, rfl, rfl, rfl, rfl, rfl, rfl, rfl, rfl, trivial⟩
                · refine And.intro (fun hc53 => ?_) (fun hc53 => ?_)
                  · exact ps_weak (kT67 (q_ifp (Or.inr (hc53)) h)) ⟨rfl, rfl, rfl, rfl, rfl, rfl, rfl, rfl, rfl, trivial⟩
                  · replace h := q_ifn (not_or.mpr ⟨hc52, hc53⟩) h
                    replace h := q_be h
                    obtain ⟨v55, hv, h⟩ := h
                    replace hv := q_aI_e hv
                    obtain ⟨_, _, cv55, iv55, yv55⟩ := hv
                    replace h := q_be h
                    obtain ⟨v56, hv, h⟩ := h
                    refine ⟨⟨some _, rfl⟩, _, _, cv55, iv55, _, yv55, ?_⟩
                    refine rX0_like hv ?_
                    refine And.intro (fun hc57 => ?_) (fun hc57 => ?_)
                    · replace h := q_ifp (hc57) h
                      exact ps_weak (pjX0_wand_252_101 h hh he) ⟨rfl, rfl, rfl, rfl, rfl, rfl, rfl, rfl, rfl, trivial⟩
                    · replace h := q_ifn (hc57) h
                      replace h := q_be h
                      obtain ⟨v59, hv, h⟩ := h
                      replace hv := q_fR_e hv
                      obtain ⟨_, cv59, dv59⟩ := hv
                      replace h := q_be h
                      obtain ⟨a60, ea60, h⟩ := h
                      subst ea60
                      replace h := q_be h
                      obtain ⟨g61, hv, h⟩ := h
                      replace hv := q_wI_e hv
                      obtain ⟨_, _, cg61, pg61, ig61, yg61⟩ := hv
                      replace h := q_be h
                      obtain ⟨v62, hv, h⟩ := h
                      replace hv := q_fR_e hv
                      obtain ⟨_, cv62, dv62⟩ := hv
                      replace h := q_be h
                      obtain ⟨a63, ea63, h⟩ := h
                      subst ea63
                      replace h := q_be h
                      obtain ⟨g64, hv, h⟩ := h
                      replace hv := q_wI_e hv
                      obtain ⟨_, _, cg64, pg64, ig64, yg64⟩ := hv
                      refine ⟨⟨some _, rfl⟩, _, _, cv59, dv59, _, _, cg61, pg61, ig61, _, yg61, ⟨some _, rfl⟩, _, _, cv62, dv62, _, _, cg64, pg64, ig64, _, yg64, by decide, ?_⟩
                      exact ps_weak (pjX0_wand_252_101 h hh he) ⟨rfl, rfl, rfl, rfl, rfl, rfl, rfl, rfl, rfl, trivial⟩
      refine ⟨by decide, ?_⟩
      refine And.intro (fun hc36 => ?_) (fun hc36 => ?_)
      · refine sX0_wand_144 ?_
        have kJ77 : ∀ w76 : Int32, w76 = (if ¬ x11 = (3 : Int32) then (0 : Int32) else (1 : Int32)) → ps_At mX0_wand (d + 2) 155 [(0, .ref x0), (1, .ref x1), (4, .int x4), (6, .int x6), (7, .int x7), (8, .int x8), (9, .int x9), (10, .int x10), (11, .int x11), (12, .int (x9 + (if ¬ x11 = 0 then (if ¬ x11 = (1 : Int32) then (0 : Int32) else (1 : Int32)) else (-1 : Int32))))] [.int w76, .int x10] g Q := by
          rintro _ rfl
          exact ps_weak (kJ38 _ (if_pos (hc36)).symm) ⟨rfl, rfl, rfl, rfl, rfl, rfl, rfl, rfl, rfl, rfl, trivial⟩
        refine And.intro (fun hc75 => ?_) (fun hc75 => ?_)
        · refine sX0_wand_154 ?_
          exact ps_weak (kJ77 _ (if_pos (hc75)).symm) ⟨rfl, rfl, rfl, rfl, rfl, rfl, rfl, rfl, rfl, rfl, trivial⟩
        · exact ps_weak (kJ77 _ (if_neg (hc75)).symm) ⟨rfl, rfl, rfl, rfl, rfl, rfl, rfl, rfl, rfl, rfl, trivial⟩
      · exact ps_weak (kJ38 _ (if_neg (hc36)).symm) ⟨rfl, rfl, rfl, rfl, rfl, rfl, rfl, rfl, rfl, rfl, trivial⟩
    refine And.intro (fun hc33 => ?_) (fun hc33 => ?_)
    · refine sX0_wand_118 ?_
      have kJ80 : ∀ w79 : Int32, w79 = (if ¬ x11 = (1 : Int32) then (0 : Int32) else (1 : Int32)) → ps_At mX0_wand (d + 2) 129 [(0, .ref x0), (1, .ref x1), (4, .int x4), (6, .int x6), (7, .int x7), (8, .int x8), (9, .int x9), (10, .int x10), (11, .int x11)] [.int w79, .int x9] g Q := by
        rintro _ rfl
        exact ps_weak (kJ35 _ (if_pos (hc33)).symm) ⟨rfl, rfl, rfl, rfl, rfl, rfl, rfl, rfl, rfl, trivial⟩
      refine And.intro (fun hc78 => ?_) (fun hc78 => ?_)
      · refine sX0_wand_128 ?_
        exact ps_weak (kJ80 _ (if_pos (hc78)).symm) ⟨rfl, rfl, rfl, rfl, rfl, rfl, rfl, rfl, rfl, trivial⟩
      · exact ps_weak (kJ80 _ (if_neg (hc78)).symm) ⟨rfl, rfl, rfl, rfl, rfl, rfl, rfl, rfl, rfl, trivial⟩
    · exact ps_weak (kJ35 _ (if_neg (hc33)).symm) ⟨rfl, rfl, rfl, rfl, rfl, rfl, rfl, rfl, rfl, trivial⟩
noncomputable def bX0_wand_55 (x0 : Nat) (x1 : Nat) (x4 : Int32) (x6 : Int32) (x7 : Int32) (x8 : Int32) (g : ps_G) : Option ((Int32 × Int32 × ps_G) ⊕ (ps_G)) := if (x7 ≤ x8) ∨ ((576 : Int32) ≤ x8) then (some (.inr g)) else (Option.bind (q_fR 0 4 g x0) fun v15 => Option.bind (v15) fun a16 => Option.bind (q_aI g a16 x8) fun v17 => Option.bind (q_fI 0 0 g x0) fun v18 => Option.bind (q_mod v17 v18) fun v19 => Option.bind (q_fR 0 4 g x0) fun v20 => Option.bind (v20) fun a21 => Option.bind (q_aI g a21 x8) fun v22 => Option.bind (q_fI 0 0 g x0) fun v23 => Option.bind (q_div v22 v23) fun v24 => Option.bind (q_lp (fun s => bX0_wand_101 x0 x1 x4 x6 x8 v19 v24 s.1 s.2.1 s.2.2) (x7, (0 : Int32), g)) fun s83 => some (.inl (s83.1, x8 + (1 : Int32), s83.2)))
theorem pbX0_wand_55 {d : Nat} {Q : ps_Rs → ps_G → Prop}  {x0 : Nat} {x1 : Nat} {x4 : Int32} {x6 : Int32} {x7 : Int32} {x8 : Int32} {g : ps_G} {x : (Int32 × Int32 × ps_G) ⊕ (ps_G)} (h : bX0_wand_55 x0 x1 x4 x6 x7 x8 g = some x) (hh : ∀ s' : Int32 × Int32 × ps_G, x = .inl s' → ps_At mX0_wand (d + 2) 55 [(0, .ref x0), (1, .ref x1), (4, .int x4), (6, .int x6), (7, .int s'.1), (8, .int s'.2.1)] [] s'.2.2 Q) (he : ∀ r' : ps_G, x = .inr r' → ps_At mX0_wand (d + 2) 264 [] [] r' Q) : ps_At mX0_wand (d + 2) 55 [(0, .ref x0), (1, .ref x1), (4, .int x4), (6, .int x6), (7, .int x7), (8, .int x8)] [] g Q := by
  unfold bX0_wand_55 at h
  refine sX0_wand_55 ?_
  have kT84 : (some (.inr g)) = some x → ps_At mX0_wand (d + 2) 264 [] [] g Q := fun h => by
    exact ps_weak (he g (Option.some.inj h).symm) trivial
  refine And.intro (fun hc12 => ?_) (fun hc12 => ?_)
  · exact ps_weak (kT84 (q_ifp (Or.inl hc12) h)) trivial
  · refine And.intro (fun hc13 => ?_) (fun hc13 => ?_)
    · exact ps_weak (kT84 (q_ifp (Or.inr (hc13)) h)) trivial
    · replace h := q_ifn (not_or.mpr ⟨hc12, hc13⟩) h
      replace h := q_be h
      obtain ⟨v15, hv, h⟩ := h
      replace hv := q_fR_e hv
      obtain ⟨_, cv15, dv15⟩ := hv
      replace h := q_be h
      obtain ⟨a16, ea16, h⟩ := h
      subst ea16
      replace h := q_be h
      obtain ⟨v17, hv, h⟩ := h
      replace hv := q_aI_e hv
      obtain ⟨_, _, cv17, iv17, yv17⟩ := hv
      replace h := q_be h
      obtain ⟨v18, hv, h⟩ := h
      replace hv := q_fI_e hv
      obtain ⟨_, cv18, dv18⟩ := hv
      replace h := q_be h
      obtain ⟨v19, hv, h⟩ := h
      replace hv := q_mod_e hv
      obtain ⟨zv19, yv19⟩ := hv
      replace h := q_be h
      obtain ⟨v20, hv, h⟩ := h
      replace hv := q_fR_e hv
      obtain ⟨_, cv20, dv20⟩ := hv
      replace h := q_be h
      obtain ⟨a21, ea21, h⟩ := h
      subst ea21
      replace h := q_be h
      obtain ⟨v22, hv, h⟩ := h
      replace hv := q_aI_e hv
      obtain ⟨_, _, cv22, iv22, yv22⟩ := hv
      replace h := q_be h
      obtain ⟨v23, hv, h⟩ := h
      replace hv := q_fI_e hv
      obtain ⟨_, cv23, dv23⟩ := hv
      replace h := q_be h
      obtain ⟨v24, hv, h⟩ := h
      replace hv := q_div_e hv
      obtain ⟨zv24, yv24⟩ := hv
      refine ⟨⟨some _, rfl⟩, _, _, cv15, dv15, _, _, cv17, iv17, _, yv17, ⟨some _, rfl⟩, _, _, cv18, dv18, zv19, _, yv19, by decide, ⟨some _, rfl⟩, _, _, cv20, dv20, _, _, cv22, iv22, _, yv22, ⟨some _, rfl⟩, _, _, cv23, dv23, zv24, _, yv24, by decide, by decide, ?_⟩
      replace h := q_be h
      obtain ⟨s83, hl, h⟩ := h
      refine ps_weak (q_lp_ok hl (fun s => ps_At mX0_wand (d + 2) 101 [(0, .ref x0), (1, .ref x1), (4, .int x4), (6, .int x6), (7, .int s.1), (8, .int x8), (9, .int v19), (10, .int v24), (11, .int s.2.1)] [] s.2.2 Q) (fun r => ps_At mX0_wand (d + 2) 258 [(0, .ref x0), (1, .ref x1), (4, .int x4), (6, .int x6), (7, .int r.1), (8, .int x8)] [] r.2 Q) (fun s x hb hh he => pbX0_wand_101 hb hh he) ?_) ⟨rfl, rfl, rfl, rfl, rfl, rfl, rfl, rfl, rfl, trivial⟩
      refine (?_ : ps_At mX0_wand (d + 2) 258 [(0, .ref x0), (1, .ref x1), (4, .int x4), (6, .int x6), (7, .int s83.1), (8, .int x8)] [] s83.2 Q)
      refine sX0_wand_258 ?_
      refine ⟨by decide, ?_⟩
      exact ps_weak (hh (s83.1, x8 + (1 : Int32), s83.2) (Option.some.inj h).symm) ⟨rfl, rfl, rfl, rfl, rfl, rfl, trivial⟩
noncomputable def jX0_wand_264 (g : ps_G) : Option (ps_G) := some g
theorem pjX0_wand_264 {d : Nat} {Q : ps_Rs → ps_G → Prop} {g : ps_G}  {r : ps_G} (h : jX0_wand_264 g = some r) (hk : Q (.inl none) r) : ps_At mX0_wand (d + 2) 264 [] [] g Q := by
  unfold jX0_wand_264 at h
  refine sX0_wand_264 ?_
  cases h
  exact ⟨rfl, rfl, hk⟩
noncomputable def fX0_wand (g : ps_G) (x0 : Nat) (x1 : Nat) (x2 : Int32) (x3 : Int32) (x4 : Int32) : Option (ps_G) := Option.bind (q_fI 0 0 g x0) fun v1 => Option.bind (q_aI g x1 (fX11_within ((x3 * v1) + x2) (0 : Int32) (575 : Int32))) fun v2 => Option.bind (q_fR 0 3 g x0) fun v3 => Option.bind (v3) fun a4 => Option.bind (fJ7_fill_53178 g a4 (0 : Int32)) fun v5 => Option.bind (q_fR 0 3 v5 x0) fun v6 => Option.bind (v6) fun a7 => Option.bind (q_wI v5 a7 (fX11_within ((x3 * v1) + x2) (0 : Int32) (575 : Int32)) (255 : Int32)) fun g8 => Option.bind (q_fR 0 4 g8 x0) fun v9 => Option.bind (v9) fun a10 => Option.bind (q_wI g8 a10 (0 : Int32) (fX11_within ((x3 * v1) + x2) (0 : Int32) (575 : Int32))) fun g11 => Option.bind (q_lp (fun s => bX0_wand_55 x0 x1 x4 v2 s.1 s.2.1 s.2.2) ((1 : Int32), (0 : Int32), g11)) fun s86 => jX0_wand_264 s86
theorem rX0_wand {d : Nat} {Q : ps_Rs → ps_G → Prop} {g : ps_G} {x0 : Nat} {x1 : Nat} {x2 : Int32} {x3 : Int32} {x4 : Int32} {r : ps_G} (h : fX0_wand g x0 x1 x2 x3 x4 = some r) (hk : Q (.inl none) r) : ps_Ok mX0_wand (d + 2) [.ref x0, .ref x1, .int x2, .int x3, .int x4] g Q := by
  unfold fX0_wand at h
  refine sX0_wand_0 ?_
  replace h := q_be h
  obtain ⟨v1, hv, h⟩ := h
  replace hv := q_fI_e hv
  obtain ⟨_, cv1, dv1⟩ := hv
  refine ⟨⟨some _, rfl⟩, _, _, cv1, dv1, ?_⟩
  refine rX11_within rfl ?_
  replace h := q_be h
  obtain ⟨v2, hv, h⟩ := h
  replace hv := q_aI_e hv
  obtain ⟨_, _, cv2, iv2, yv2⟩ := hv
  replace h := q_be h
  obtain ⟨v3, hv, h⟩ := h
  replace hv := q_fR_e hv
  obtain ⟨_, cv3, dv3⟩ := hv
  replace h := q_be h
  obtain ⟨a4, ea4, h⟩ := h
  subst ea4
  replace h := q_be h
  obtain ⟨v5, hv, h⟩ := h
  refine ⟨by decide, ⟨some _, rfl⟩, _, _, cv2, iv2, _, yv2, by decide, ⟨some _, rfl⟩, _, _, cv3, dv3, ?_⟩
  refine rJ7_fill_53178 hv ?_
  replace h := q_be h
  obtain ⟨v6, hv, h⟩ := h
  replace hv := q_fR_e hv
  obtain ⟨_, cv6, dv6⟩ := hv
  replace h := q_be h
  obtain ⟨a7, ea7, h⟩ := h
  subst ea7
  replace h := q_be h
  obtain ⟨g8, hv, h⟩ := h
  replace hv := q_wI_e hv
  obtain ⟨_, _, cg8, pg8, ig8, yg8⟩ := hv
  replace h := q_be h
  obtain ⟨v9, hv, h⟩ := h
  replace hv := q_fR_e hv
  obtain ⟨_, cv9, dv9⟩ := hv
  replace h := q_be h
  obtain ⟨a10, ea10, h⟩ := h
  subst ea10
  replace h := q_be h
  obtain ⟨g11, hv, h⟩ := h
  replace hv := q_wI_e hv
  obtain ⟨_, _, cg11, pg11, ig11, yg11⟩ := hv
  refine ⟨⟨some _, rfl⟩, _, _, cv6, dv6, _, _, cg8, pg8, ig8, _, yg8, ⟨some _, rfl⟩, _, _, cv9, dv9, _, _, cg11, pg11, ig11, _, yg11, by decide, by decide, ?_⟩
  replace h := q_be h
  obtain ⟨s86, hl, h⟩ := h
  refine ps_weak (q_lp_ok hl (fun s => ps_At mX0_wand (d + 2) 55 [(0, .ref x0), (1, .ref x1), (4, .int x4), (6, .int v2), (7, .int s.1), (8, .int s.2.1)] [] s.2.2 Q) (fun r => ps_At mX0_wand (d + 2) 264 [] [] r Q) (fun s x hb hh he => pbX0_wand_55 hb hh he) ?_) ⟨rfl, rfl, rfl, rfl, rfl, rfl, trivial⟩
  refine (?_ : ps_At mX0_wand (d + 2) 264 [] [] s86 Q)
  exact ps_weak (pjX0_wand_264 h hk) trivial
noncomputable def bX0_alike_22 (x0 : Nat) (x1 : Nat) (x4 : Int32) (x5 : Int32) (x6 : Int32) (g : ps_G) : Option ((Int32 × ps_G) ⊕ (ps_G)) := Option.bind (q_fI 0 0 g x0) fun v3 => Option.bind (q_fI 0 1 g x0) fun v4 => if (v3 * v4) ≤ x6 then (some (.inr g)) else (Option.bind (q_fR 0 3 g x0) fun v7 => Option.bind (v7) fun a8 => Option.bind (q_aI g x1 x6) fun v9 => Option.bind (fX0_like g v9 x5 x4) fun v10 => Option.bind (q_wI g a8 x6 (if v10 = 0 then (0 : Int32) else (255 : Int32))) fun g14 => some (.inl (x6 + (1 : Int32), g14)))
theorem pbX0_alike_22 {d : Nat} {Q : ps_Rs → ps_G → Prop}  {x0 : Nat} {x1 : Nat} {x4 : Int32} {x5 : Int32} {x6 : Int32} {g : ps_G} {x : (Int32 × ps_G) ⊕ (ps_G)} (h : bX0_alike_22 x0 x1 x4 x5 x6 g = some x) (hh : ∀ s' : Int32 × ps_G, x = .inl s' → ps_At mX0_alike (d + 2) 22 [(0, .ref x0), (1, .ref x1), (4, .int x4), (5, .int x5), (6, .int s'.1)] [] s'.2 Q) (he : ∀ r' : ps_G, x = .inr r' → ps_At mX0_alike (d + 2) 70 [] [] r' Q) : ps_At mX0_alike (d + 2) 22 [(0, .ref x0), (1, .ref x1), (4, .int x4), (5, .int x5), (6, .int x6)] [] g Q := by
  unfold bX0_alike_22 at h
  refine sX0_alike_22 ?_
  replace h := q_be h
  obtain ⟨v3, hv, h⟩ := h
  replace hv := q_fI_e hv
  obtain ⟨_, cv3, dv3⟩ := hv
  replace h := q_be h
  obtain ⟨v4, hv, h⟩ := h
  replace hv := q_fI_e hv
  obtain ⟨_, cv4, dv4⟩ := hv
  refine ⟨⟨some _, rfl⟩, _, _, cv3, dv3, ⟨some _, rfl⟩, _, _, cv4, dv4, ?_⟩
  refine And.intro (fun hc5 => ?_) (fun hc5 => ?_)
  · replace h := q_ifp (hc5) h
    exact ps_weak (he g (Option.some.inj h).symm) trivial
  · replace h := q_ifn (hc5) h
    replace h := q_be h
    obtain ⟨v7, hv, h⟩ := h
    replace hv := q_fR_e hv
    obtain ⟨_, cv7, dv7⟩ := hv
    replace h := q_be h
    obtain ⟨a8, ea8, h⟩ := h
    subst ea8
    replace h := q_be h
    obtain ⟨v9, hv, h⟩ := h
    replace hv := q_aI_e hv
    obtain ⟨_, _, cv9, iv9, yv9⟩ := hv
    replace h := q_be h
    obtain ⟨v10, hv, h⟩ := h
    refine ⟨⟨some _, rfl⟩, _, _, cv7, dv7, ⟨some _, rfl⟩, _, _, cv9, iv9, _, yv9, ?_⟩
    refine rX0_like hv ?_
    have kJ13 : ∀ w12 : Int32, w12 = (if v10 = 0 then (0 : Int32) else (255 : Int32)) → ps_At mX0_alike (d + 2) 63 [(0, .ref x0), (1, .ref x1), (4, .int x4), (5, .int x5), (6, .int x6)] [.int w12, .int x6, .ref a8] g Q := by
      rintro _ rfl
      refine sX0_alike_63 ?_
      replace h := q_be h
      obtain ⟨g14, hv, h⟩ := h
      replace hv := q_wI_e hv
      obtain ⟨_, _, cg14, pg14, ig14, yg14⟩ := hv
      refine ⟨_, _, cg14, pg14, ig14, _, yg14, by decide, ?_⟩
      exact ps_weak (hh (x6 + (1 : Int32), g14) (Option.some.inj h).symm) ⟨rfl, rfl, rfl, rfl, rfl, trivial⟩
    refine And.intro (fun hc11 => ?_) (fun hc11 => ?_)
    · refine sX0_alike_62 ?_
      exact ps_weak (kJ13 _ (if_pos (hc11)).symm) ⟨rfl, rfl, rfl, rfl, rfl, trivial⟩
    · exact ps_weak (kJ13 _ (if_neg (hc11)).symm) ⟨rfl, rfl, rfl, rfl, rfl, trivial⟩
noncomputable def fX0_alike (g : ps_G) (x0 : Nat) (x1 : Nat) (x2 : Int32) (x3 : Int32) (x4 : Int32) : Option (ps_G) := Option.bind (q_fI 0 0 g x0) fun v1 => Option.bind (q_aI g x1 (fX11_within ((x3 * v1) + x2) (0 : Int32) (575 : Int32))) fun v2 => Option.bind (q_lp (fun s => bX0_alike_22 x0 x1 x4 v2 s.1 s.2) ((0 : Int32), g)) fun s17 => some s17
theorem rX0_alike {d : Nat} {Q : ps_Rs → ps_G → Prop} {g : ps_G} {x0 : Nat} {x1 : Nat} {x2 : Int32} {x3 : Int32} {x4 : Int32} {r : ps_G} (h : fX0_alike g x0 x1 x2 x3 x4 = some r) (hk : Q (.inl none) r) : ps_Ok mX0_alike (d + 2) [.ref x0, .ref x1, .int x2, .int x3, .int x4] g Q := by
  unfold fX0_alike at h
  refine sX0_alike_0 ?_
  replace h := q_be h
  obtain ⟨v1, hv, h⟩ := h
  replace hv := q_fI_e hv
  obtain ⟨_, cv1, dv1⟩ := hv
  refine ⟨⟨some _, rfl⟩, ⟨some _, rfl⟩, _, _, cv1, dv1, ?_⟩
  refine rX11_within rfl ?_
  replace h := q_be h
  obtain ⟨v2, hv, h⟩ := h
  replace hv := q_aI_e hv
  obtain ⟨_, _, cv2, iv2, yv2⟩ := hv
  refine ⟨_, _, cv2, iv2, _, yv2, by decide, by decide, ?_⟩
  replace h := q_be h
  obtain ⟨s17, hl, h⟩ := h
  refine ps_weak (q_lp_ok hl (fun s => ps_At mX0_alike (d + 2) 22 [(0, .ref x0), (1, .ref x1), (4, .int x4), (5, .int v2), (6, .int s.1)] [] s.2 Q) (fun r => ps_At mX0_alike (d + 2) 70 [] [] r Q) (fun s x hb hh he => pbX0_alike_22 hb hh he) ?_) ⟨rfl, rfl, rfl, rfl, rfl, trivial⟩
  refine (?_ : ps_At mX0_alike (d + 2) 70 [] [] s17 Q)
  refine sX0_alike_70 ?_
  cases h
  exact ⟨rfl, rfl, hk⟩
noncomputable def fX11_selectable (g : ps_G) (x0 : Nat) (x1 : Int32) : Option ((String ⊕ Option Nat) × ps_G) := Option.bind (q_ob 11 g x0) fun u1 => q_tc (fX11_known g x0 x1) fun v2 g3 => Option.bind (v2) fun a4 => Option.bind (q_fI 4 1 g3 a4) fun v5 => if v5 = 0 then (some (.inr (some a4), g3)) else (some (.inl "java/util/NoSuchElementException", ps_nw g3 6 ps_e0))
theorem rX11_selectable {d : Nat} {Q : ps_Rs → ps_G → Prop} {g : ps_G} {x0 : Nat} {x1 : Int32} {r : (String ⊕ Option Nat) × ps_G} (h : fX11_selectable g x0 x1 = some r) (hk : Q (q_rA r.1) r.2) : ps_Ok mX11_selectable (d + 7) [.ref x0, .int x1] g Q := by
  unfold fX11_selectable at h
  refine sX11_selectable_0 ?_
  replace h := q_be h
  obtain ⟨u1, hv, h⟩ := h
  replace hv := q_ob_e hv
  obtain ⟨_, cu1⟩ := hv
  refine ⟨⟨some _, rfl⟩, ⟨_, cu1⟩, ?_⟩
  replace h := q_tc_e h
  rcases h with ⟨E, g3, hv, rfl⟩ | ⟨v2, g3, hv, h⟩
  · exact rX11_known hv hk
  refine rX11_known hv ?_
  replace h := q_be h
  obtain ⟨a4, ea4, h⟩ := h
  subst ea4
  replace h := q_be h
  obtain ⟨v5, hv, h⟩ := h
  replace hv := q_fI_e hv
  obtain ⟨_, cv5, dv5⟩ := hv
  refine ⟨_, _, rfl, by decide, ⟨some _, rfl⟩, _, _, cv5, dv5, ?_⟩
  refine And.intro (fun hc6 => ?_) (fun hc6 => ?_)
  · replace h := q_ifp (hc6) h
    refine sX11_selectable_24 ?_
    cases h
    exact ⟨⟨some _, rfl⟩, some _, _, rfl, rfl, ⟨_, rfl, Or.inl ⟨_, rfl⟩⟩, hk⟩
  · replace h := q_ifn (hc6) h
    cases h
    exact sX11_selectable_13 (by decide) hk
noncomputable def bX0_alphas_12 (x0 : Nat) (x1 : Nat) (x2 : Int32) (x3 : Int32) (g : ps_G) : Option ((Int32 × ps_G) ⊕ (ps_G)) := Option.bind (q_fI 0 0 g x0) fun v3 => if v3 ≤ x3 then (some (.inr g)) else (Option.bind (q_fR 0 3 g x0) fun v6 => Option.bind (v6) fun a7 => Option.bind (q_fI 0 0 g x0) fun v8 => Option.bind (q_fI 4 7 g x1) fun v9 => Option.bind (q_fI 4 8 g x1) fun v10 => Option.bind (q_fI 0 0 g x0) fun v11 => Option.bind (q_fI 0 1 g x0) fun v12 => Option.bind (q_ob 4 g x1) fun u13 => Option.bind (fX4_own g x1 (x3 - v9) (x2 - v10) v11 v12) fun v14 => Option.bind (q_wI g a7 ((x2 * v8) + x3) (q_ush v14 (24 : Int32))) fun g15 => some (.inl (x3 + (1 : Int32), g15)))
theorem pbX0_alphas_12 {d : Nat} {Q : ps_Rs → ps_G → Prop}  {x0 : Nat} {x1 : Nat} {x2 : Int32} {x3 : Int32} {g : ps_G} {x : (Int32 × ps_G) ⊕ (ps_G)} (h : bX0_alphas_12 x0 x1 x2 x3 g = some x) (hh : ∀ s' : Int32 × ps_G, x = .inl s' → ps_At mX0_alphas (d + 1) 12 [(0, .ref x0), (1, .ref x1), (2, .int x2), (3, .int s'.1)] [] s'.2 Q) (he : ∀ r' : ps_G, x = .inr r' → ps_At mX0_alphas (d + 1) 66 [(0, .ref x0), (1, .ref x1), (2, .int x2)] [] r' Q) : ps_At mX0_alphas (d + 1) 12 [(0, .ref x0), (1, .ref x1), (2, .int x2), (3, .int x3)] [] g Q := by
  unfold bX0_alphas_12 at h
  refine sX0_alphas_12 ?_
  replace h := q_be h
  obtain ⟨v3, hv, h⟩ := h
  replace hv := q_fI_e hv
  obtain ⟨_, cv3, dv3⟩ := hv
  refine ⟨⟨some _, rfl⟩, _, _, cv3, dv3, ?_⟩
  refine And.intro (fun hc4 => ?_) (fun hc4 => ?_)
  · replace h := q_ifp (hc4) h
    exact ps_weak (he g (Option.some.inj h).symm) ⟨rfl, rfl, rfl, trivial⟩
  · replace h := q_ifn (hc4) h
    replace h := q_be h
    obtain ⟨v6, hv, h⟩ := h
    replace hv := q_fR_e hv
    obtain ⟨_, cv6, dv6⟩ := hv
    replace h := q_be h
    obtain ⟨a7, ea7, h⟩ := h
    subst ea7
    replace h := q_be h
    obtain ⟨v8, hv, h⟩ := h
    replace hv := q_fI_e hv
    obtain ⟨_, cv8, dv8⟩ := hv
    replace h := q_be h
    obtain ⟨v9, hv, h⟩ := h
    replace hv := q_fI_e hv
    obtain ⟨_, cv9, dv9⟩ := hv
    replace h := q_be h
    obtain ⟨v10, hv, h⟩ := h
    replace hv := q_fI_e hv
    obtain ⟨_, cv10, dv10⟩ := hv
    replace h := q_be h
    obtain ⟨v11, hv, h⟩ := h
    replace hv := q_fI_e hv
    obtain ⟨_, cv11, dv11⟩ := hv
    replace h := q_be h
    obtain ⟨v12, hv, h⟩ := h
    replace hv := q_fI_e hv
    obtain ⟨_, cv12, dv12⟩ := hv
    replace h := q_be h
    obtain ⟨u13, hv, h⟩ := h
    replace hv := q_ob_e hv
    obtain ⟨_, cu13⟩ := hv
    replace h := q_be h
    obtain ⟨v14, hv, h⟩ := h
    refine ⟨⟨some _, rfl⟩, _, _, cv6, dv6, ⟨some _, rfl⟩, _, _, cv8, dv8, ⟨some _, rfl⟩, ⟨some _, rfl⟩, _, _, cv9, dv9, ⟨some _, rfl⟩, _, _, cv10, dv10, ⟨some _, rfl⟩, _, _, cv11, dv11, ⟨some _, rfl⟩, _, _, cv12, dv12, ⟨_, cu13⟩, ?_⟩
    refine rX4_own hv ?_
    replace h := q_be h
    obtain ⟨g15, hv, h⟩ := h
    replace hv := q_wI_e hv
    obtain ⟨_, _, cg15, pg15, ig15, yg15⟩ := hv
    refine ⟨_, _, cg15, pg15, ig15, _, yg15, by decide, ?_⟩
    exact ps_weak (hh (x3 + (1 : Int32), g15) (Option.some.inj h).symm) ⟨rfl, rfl, rfl, rfl, trivial⟩
noncomputable def bX0_alphas_2 (x0 : Nat) (x1 : Nat) (x2 : Int32) (g : ps_G) : Option ((Int32 × ps_G) ⊕ (ps_G)) := Option.bind (q_fI 0 1 g x0) fun v1 => if v1 ≤ x2 then (some (.inr g)) else (Option.bind (q_lp (fun s => bX0_alphas_12 x0 x1 x2 s.1 s.2) ((0 : Int32), g)) fun s18 => some (.inl (x2 + (1 : Int32), s18)))
theorem pbX0_alphas_2 {d : Nat} {Q : ps_Rs → ps_G → Prop}  {x0 : Nat} {x1 : Nat} {x2 : Int32} {g : ps_G} {x : (Int32 × ps_G) ⊕ (ps_G)} (h : bX0_alphas_2 x0 x1 x2 g = some x) (hh : ∀ s' : Int32 × ps_G, x = .inl s' → ps_At mX0_alphas (d + 1) 2 [(0, .ref x0), (1, .ref x1), (2, .int s'.1)] [] s'.2 Q) (he : ∀ r' : ps_G, x = .inr r' → ps_At mX0_alphas (d + 1) 72 [] [] r' Q) : ps_At mX0_alphas (d + 1) 2 [(0, .ref x0), (1, .ref x1), (2, .int x2)] [] g Q := by
  unfold bX0_alphas_2 at h
  refine sX0_alphas_2 ?_
  replace h := q_be h
  obtain ⟨v1, hv, h⟩ := h
  replace hv := q_fI_e hv
  obtain ⟨_, cv1, dv1⟩ := hv
  refine ⟨⟨some _, rfl⟩, _, _, cv1, dv1, ?_⟩
  refine And.intro (fun hc2 => ?_) (fun hc2 => ?_)
  · replace h := q_ifp (hc2) h
    exact ps_weak (he g (Option.some.inj h).symm) trivial
  · replace h := q_ifn (hc2) h
    refine ⟨by decide, ?_⟩
    replace h := q_be h
    obtain ⟨s18, hl, h⟩ := h
    refine ps_weak (q_lp_ok hl (fun s => ps_At mX0_alphas (d + 1) 12 [(0, .ref x0), (1, .ref x1), (2, .int x2), (3, .int s.1)] [] s.2 Q) (fun r => ps_At mX0_alphas (d + 1) 66 [(0, .ref x0), (1, .ref x1), (2, .int x2)] [] r Q) (fun s x hb hh he => pbX0_alphas_12 hb hh he) ?_) ⟨rfl, rfl, rfl, rfl, trivial⟩
    refine (?_ : ps_At mX0_alphas (d + 1) 66 [(0, .ref x0), (1, .ref x1), (2, .int x2)] [] s18 Q)
    refine sX0_alphas_66 ?_
    refine ⟨by decide, ?_⟩
    exact ps_weak (hh (x2 + (1 : Int32), s18) (Option.some.inj h).symm) ⟨rfl, rfl, rfl, trivial⟩
noncomputable def fX0_alphas (g : ps_G) (x0 : Nat) (x1 : Nat) : Option (ps_G) := Option.bind (q_lp (fun s => bX0_alphas_2 x0 x1 s.1 s.2) ((0 : Int32), g)) fun s21 => some s21
theorem rX0_alphas {d : Nat} {Q : ps_Rs → ps_G → Prop} {g : ps_G} {x0 : Nat} {x1 : Nat} {r : ps_G} (h : fX0_alphas g x0 x1 = some r) (hk : Q (.inl none) r) : ps_Ok mX0_alphas (d + 1) [.ref x0, .ref x1] g Q := by
  unfold fX0_alphas at h
  refine sX0_alphas_0 ?_
  refine ⟨by decide, ?_⟩
  replace h := q_be h
  obtain ⟨s21, hl, h⟩ := h
  refine ps_weak (q_lp_ok hl (fun s => ps_At mX0_alphas (d + 1) 2 [(0, .ref x0), (1, .ref x1), (2, .int s.1)] [] s.2 Q) (fun r => ps_At mX0_alphas (d + 1) 72 [] [] r Q) (fun s x hb hh he => pbX0_alphas_2 hb hh he) ?_) ⟨rfl, rfl, rfl, trivial⟩
  refine (?_ : ps_At mX0_alphas (d + 1) 72 [] [] s21 Q)
  refine sX0_alphas_72 ?_
  cases h
  exact ⟨rfl, rfl, hk⟩
noncomputable def bX0_covered_2 (x0 : Nat) (x1 : Nat) (x2 : Int32) (g : ps_G) : Option ((Int32 × ps_G) ⊕ (ps_G)) := Option.bind (q_fI 0 0 g x0) fun v1 => Option.bind (q_fI 0 1 g x0) fun v2 => if (v1 * v2) ≤ x2 then (some (.inr g)) else (Option.bind (q_len g x1) fun v5 => if v5 ≤ x2 then (some (.inr g)) else (Option.bind (q_fR 0 3 g x0) fun v8 => Option.bind (v8) fun a9 => Option.bind (q_aI g x1 x2) fun v10 => Option.bind (q_wI g a9 x2 v10) fun g11 => some (.inl (x2 + (1 : Int32), g11))))
theorem pbX0_covered_2 {d : Nat} {Q : ps_Rs → ps_G → Prop}  {x0 : Nat} {x1 : Nat} {x2 : Int32} {g : ps_G} {x : (Int32 × ps_G) ⊕ (ps_G)} (h : bX0_covered_2 x0 x1 x2 g = some x) (hh : ∀ s' : Int32 × ps_G, x = .inl s' → ps_At mX0_covered d 2 [(0, .ref x0), (1, .ref x1), (2, .int s'.1)] [] s'.2 Q) (he : ∀ r' : ps_G, x = .inr r' → ps_At mX0_covered d 36 [] [] r' Q) : ps_At mX0_covered d 2 [(0, .ref x0), (1, .ref x1), (2, .int x2)] [] g Q := by
  unfold bX0_covered_2 at h
  refine sX0_covered_2 ?_
  replace h := q_be h
  obtain ⟨v1, hv, h⟩ := h
  replace hv := q_fI_e hv
  obtain ⟨_, cv1, dv1⟩ := hv
  replace h := q_be h
  obtain ⟨v2, hv, h⟩ := h
  replace hv := q_fI_e hv
  obtain ⟨_, cv2, dv2⟩ := hv
  refine ⟨⟨some _, rfl⟩, _, _, cv1, dv1, ⟨some _, rfl⟩, _, _, cv2, dv2, ?_⟩
  refine And.intro (fun hc3 => ?_) (fun hc3 => ?_)
  · replace h := q_ifp (hc3) h
    exact ps_weak (he g (Option.some.inj h).symm) trivial
  · replace h := q_ifn (hc3) h
    replace h := q_be h
    obtain ⟨v5, hv, h⟩ := h
    replace hv := q_len_e hv
    obtain ⟨_, _, cv5, qv5, yv5⟩ := hv
    refine ⟨⟨some _, rfl⟩, _, _, cv5, qv5, _, yv5, ?_⟩
    refine And.intro (fun hc6 => ?_) (fun hc6 => ?_)
    · replace h := q_ifp (hc6) h
      exact ps_weak (he g (Option.some.inj h).symm) trivial
    · replace h := q_ifn (hc6) h
      replace h := q_be h
      obtain ⟨v8, hv, h⟩ := h
      replace hv := q_fR_e hv
      obtain ⟨_, cv8, dv8⟩ := hv
      replace h := q_be h
      obtain ⟨a9, ea9, h⟩ := h
      subst ea9
      replace h := q_be h
      obtain ⟨v10, hv, h⟩ := h
      replace hv := q_aI_e hv
      obtain ⟨_, _, cv10, iv10, yv10⟩ := hv
      replace h := q_be h
      obtain ⟨g11, hv, h⟩ := h
      replace hv := q_wI_e hv
      obtain ⟨_, _, cg11, pg11, ig11, yg11⟩ := hv
      refine ⟨⟨some _, rfl⟩, _, _, cv8, dv8, ⟨some _, rfl⟩, _, _, cv10, iv10, _, yv10, _, _, cg11, pg11, ig11, _, yg11, by decide, ?_⟩
      exact ps_weak (hh (x2 + (1 : Int32), g11) (Option.some.inj h).symm) ⟨rfl, rfl, rfl, trivial⟩
noncomputable def jX0_covered_36 (g : ps_G) : Option (ps_G) := some g
theorem pjX0_covered_36 {d : Nat} {Q : ps_Rs → ps_G → Prop} {g : ps_G}  {r : ps_G} (h : jX0_covered_36 g = some r) (hk : Q (.inl none) r) : ps_At mX0_covered d 36 [] [] g Q := by
  unfold jX0_covered_36 at h
  refine sX0_covered_36 ?_
  cases h
  exact ⟨rfl, rfl, hk⟩
noncomputable def fX0_covered (g : ps_G) (x0 : Nat) (x1 : Nat) : Option (ps_G) := Option.bind (q_lp (fun s => bX0_covered_2 x0 x1 s.1 s.2) ((0 : Int32), g)) fun s16 => jX0_covered_36 s16
theorem rX0_covered {d : Nat} {Q : ps_Rs → ps_G → Prop} {g : ps_G} {x0 : Nat} {x1 : Nat} {r : ps_G} (h : fX0_covered g x0 x1 = some r) (hk : Q (.inl none) r) : ps_Ok mX0_covered d [.ref x0, .ref x1] g Q := by
  unfold fX0_covered at h
  refine sX0_covered_0 ?_
  refine ⟨by decide, ?_⟩
  replace h := q_be h
  obtain ⟨s16, hl, h⟩ := h
  refine ps_weak (q_lp_ok hl (fun s => ps_At mX0_covered d 2 [(0, .ref x0), (1, .ref x1), (2, .int s.1)] [] s.2 Q) (fun r => ps_At mX0_covered d 36 [] [] r Q) (fun s x hb hh he => pbX0_covered_2 hb hh he) ?_) ⟨rfl, rfl, rfl, trivial⟩
  refine (?_ : ps_At mX0_covered d 36 [] [] s16 Q)
  exact ps_weak (pjX0_covered_36 h hk) trivial
noncomputable def bX0_join_2 (x0 : Nat) (x1 : Int32) (x2 : Int32) (g : ps_G) : Option ((Int32 × ps_G) ⊕ (ps_G)) := Option.bind (q_fI 0 0 g x0) fun v1 => Option.bind (q_fI 0 1 g x0) fun v2 => if (v1 * v2) ≤ x2 then (some (.inr g)) else (Option.bind (q_fR 0 3 g x0) fun v5 => Option.bind (v5) fun a6 => Option.bind (q_aI g a6 x2) fun v7 => Option.bind (q_fR 0 2 g x0) fun v8 => Option.bind (v8) fun a9 => Option.bind (q_aI g a9 x2) fun v10 => Option.bind (q_fR 0 2 g x0) fun v11 => Option.bind (v11) fun a12 => Option.bind (q_wI g a12 x2 (if ¬ x1 = 0 then (if ¬ x1 = (1 : Int32) then (if ¬ x1 = (2 : Int32) then fJ9_min_7cf53 v10 v7 else fJ9_max_7cf53 (0 : Int32) (v10 - v7)) else fJ9_max_7cf53 v10 v7) else v7)) fun g16 => some (.inl (x2 + (1 : Int32), g16)))
theorem pbX0_join_2 {d : Nat} {Q : ps_Rs → ps_G → Prop}  {x0 : Nat} {x1 : Int32} {x2 : Int32} {g : ps_G} {x : (Int32 × ps_G) ⊕ (ps_G)} (h : bX0_join_2 x0 x1 x2 g = some x) (hh : ∀ s' : Int32 × ps_G, x = .inl s' → ps_At mX0_join (d + 1) 2 [(0, .ref x0), (1, .int x1), (2, .int s'.1)] [] s'.2 Q) (he : ∀ r' : ps_G, x = .inr r' → ps_At mX0_join (d + 1) 86 [] [] r' Q) : ps_At mX0_join (d + 1) 2 [(0, .ref x0), (1, .int x1), (2, .int x2)] [] g Q := by
  unfold bX0_join_2 at h
  refine sX0_join_2 ?_
  replace h := q_be h
  obtain ⟨v1, hv, h⟩ := h
  replace hv := q_fI_e hv
  obtain ⟨_, cv1, dv1⟩ := hv
  replace h := q_be h
  obtain ⟨v2, hv, h⟩ := h
  replace hv := q_fI_e hv
  obtain ⟨_, cv2, dv2⟩ := hv
  refine ⟨⟨some _, rfl⟩, _, _, cv1, dv1, ⟨some _, rfl⟩, _, _, cv2, dv2, ?_⟩
  refine And.intro (fun hc3 => ?_) (fun hc3 => ?_)
  · replace h := q_ifp (hc3) h
    exact ps_weak (he g (Option.some.inj h).symm) trivial
  · replace h := q_ifn (hc3) h
    replace h := q_be h
    obtain ⟨v5, hv, h⟩ := h
    replace hv := q_fR_e hv
    obtain ⟨_, cv5, dv5⟩ := hv
    replace h := q_be h
    obtain ⟨a6, ea6, h⟩ := h
    subst ea6
    replace h := q_be h
    obtain ⟨v7, hv, h⟩ := h
    replace hv := q_aI_e hv
    obtain ⟨_, _, cv7, iv7, yv7⟩ := hv
    replace h := q_be h
    obtain ⟨v8, hv, h⟩ := h
    replace hv := q_fR_e hv
    obtain ⟨_, cv8, dv8⟩ := hv
    replace h := q_be h
    obtain ⟨a9, ea9, h⟩ := h
    subst ea9
    replace h := q_be h
    obtain ⟨v10, hv, h⟩ := h
    replace hv := q_aI_e hv
    obtain ⟨_, _, cv10, iv10, yv10⟩ := hv
    replace h := q_be h
    obtain ⟨v11, hv, h⟩ := h
    replace hv := q_fR_e hv
    obtain ⟨_, cv11, dv11⟩ := hv
    replace h := q_be h
    obtain ⟨a12, ea12, h⟩ := h
    subst ea12
    have kJ15 : ∀ w14 : Int32, w14 = (if ¬ x1 = 0 then (if ¬ x1 = (1 : Int32) then (if ¬ x1 = (2 : Int32) then fJ9_min_7cf53 v10 v7 else fJ9_max_7cf53 (0 : Int32) (v10 - v7)) else fJ9_max_7cf53 v10 v7) else v7) → ps_At mX0_join (d + 1) 79 [(0, .ref x0), (1, .int x1), (2, .int x2)] [.int w14, .int x2, .ref a12] g Q := by
      rintro _ rfl
      refine sX0_join_79 ?_
      replace h := q_be h
      obtain ⟨g16, hv, h⟩ := h
      replace hv := q_wI_e hv
      obtain ⟨_, _, cg16, pg16, ig16, yg16⟩ := hv
      refine ⟨_, _, cg16, pg16, ig16, _, yg16, by decide, ?_⟩
      exact ps_weak (hh (x2 + (1 : Int32), g16) (Option.some.inj h).symm) ⟨rfl, rfl, rfl, trivial⟩
    refine ⟨⟨some _, rfl⟩, _, _, cv5, dv5, _, _, cv7, iv7, _, yv7, by decide, ⟨some _, rfl⟩, _, _, cv8, dv8, _, _, cv10, iv10, _, yv10, by decide, ⟨some _, rfl⟩, _, _, cv11, dv11, ?_⟩
    refine And.intro (fun hc13 => ?_) (fun hc13 => ?_)
    · refine sX0_join_43 ?_
      have kJ19 : ∀ w18 : Int32, w18 = (if ¬ x1 = (1 : Int32) then (if ¬ x1 = (2 : Int32) then fJ9_min_7cf53 v10 v7 else fJ9_max_7cf53 (0 : Int32) (v10 - v7)) else fJ9_max_7cf53 v10 v7) → ps_At mX0_join (d + 1) 79 [(0, .ref x0), (1, .int x1), (2, .int x2)] [.int w18, .int x2, .ref a12] g Q := by
        rintro _ rfl
        exact ps_weak (kJ15 _ (if_pos (hc13)).symm) ⟨rfl, rfl, rfl, trivial⟩
      refine And.intro (fun hc17 => ?_) (fun hc17 => ?_)
      · refine sX0_join_57 ?_
        have kJ22 : ∀ w21 : Int32, w21 = (if ¬ x1 = (2 : Int32) then fJ9_min_7cf53 v10 v7 else fJ9_max_7cf53 (0 : Int32) (v10 - v7)) → ps_At mX0_join (d + 1) 79 [(0, .ref x0), (1, .int x1), (2, .int x2)] [.int w21, .int x2, .ref a12] g Q := by
          rintro _ rfl
          exact ps_weak (kJ19 _ (if_pos (hc17)).symm) ⟨rfl, rfl, rfl, trivial⟩
        refine And.intro (fun hc20 => ?_) (fun hc20 => ?_)
        · refine sX0_join_73 ?_
          refine rJ9_min_7cf53 rfl ?_
          exact ps_weak (kJ22 _ (if_pos (hc20)).symm) ⟨rfl, rfl, rfl, trivial⟩
        · refine rJ9_max_7cf53 rfl ?_
          exact ps_weak (kJ22 _ (if_neg (hc20)).symm) ⟨rfl, rfl, rfl, trivial⟩
      · refine rJ9_max_7cf53 rfl ?_
        exact ps_weak (kJ19 _ (if_neg (hc17)).symm) ⟨rfl, rfl, rfl, trivial⟩
    · exact ps_weak (kJ15 _ (if_neg (hc13)).symm) ⟨rfl, rfl, rfl, trivial⟩
noncomputable def fX0_join (g : ps_G) (x0 : Nat) (x1 : Int32) : Option (ps_G) := Option.bind (q_lp (fun s => bX0_join_2 x0 x1 s.1 s.2) ((0 : Int32), g)) fun s25 => some s25
theorem rX0_join {d : Nat} {Q : ps_Rs → ps_G → Prop} {g : ps_G} {x0 : Nat} {x1 : Int32} {r : ps_G} (h : fX0_join g x0 x1 = some r) (hk : Q (.inl none) r) : ps_Ok mX0_join (d + 1) [.ref x0, .int x1] g Q := by
  unfold fX0_join at h
  refine sX0_join_0 ?_
  refine ⟨by decide, ?_⟩
  replace h := q_be h
  obtain ⟨s25, hl, h⟩ := h
  refine ps_weak (q_lp_ok hl (fun s => ps_At mX0_join (d + 1) 2 [(0, .ref x0), (1, .int x1), (2, .int s.1)] [] s.2 Q) (fun r => ps_At mX0_join (d + 1) 86 [] [] r Q) (fun s x hb hh he => pbX0_join_2 hb hh he) ?_) ⟨rfl, rfl, rfl, trivial⟩
  refine (?_ : ps_At mX0_join (d + 1) 86 [] [] s25 Q)
  refine sX0_join_86 ?_
  cases h
  exact ⟨rfl, rfl, hk⟩
noncomputable def bX0_above_4 (g : ps_G) (x0 : Nat) (x1 : Int32) (x2 : Int32) : Option ((Int32 × Int32) ⊕ (Int32)) := Option.bind (q_fI 0 0 g x0) fun v1 => Option.bind (q_fI 0 1 g x0) fun v2 => if (v1 * v2) ≤ x2 then (some (.inr x1)) else (Option.bind (q_fR 0 2 g x0) fun v5 => Option.bind (v5) fun a6 => Option.bind (q_aI g a6 x2) fun v7 => some (.inl (x1 + (if v7 ≤ 0 then (0 : Int32) else (1 : Int32)), x2 + (1 : Int32))))
theorem pbX0_above_4 {d : Nat} {Q : ps_Rs → ps_G → Prop} {g : ps_G} {x0 : Nat} {x1 : Int32} {x2 : Int32} {x : (Int32 × Int32) ⊕ (Int32)} (h : bX0_above_4 g x0 x1 x2 = some x) (hh : ∀ s' : Int32 × Int32, x = .inl s' → ps_At mX0_above d 4 [(0, .ref x0), (1, .int s'.1), (2, .int s'.2)] [] g Q) (he : ∀ r' : Int32, x = .inr r' → ps_At mX0_above d 40 [(1, .int r')] [] g Q) : ps_At mX0_above d 4 [(0, .ref x0), (1, .int x1), (2, .int x2)] [] g Q := by
  unfold bX0_above_4 at h
  refine sX0_above_4 ?_
  replace h := q_be h
  obtain ⟨v1, hv, h⟩ := h
  replace hv := q_fI_e hv
  obtain ⟨_, cv1, dv1⟩ := hv
  replace h := q_be h
  obtain ⟨v2, hv, h⟩ := h
  replace hv := q_fI_e hv
  obtain ⟨_, cv2, dv2⟩ := hv
  refine ⟨⟨some _, rfl⟩, _, _, cv1, dv1, ⟨some _, rfl⟩, _, _, cv2, dv2, ?_⟩
  refine And.intro (fun hc3 => ?_) (fun hc3 => ?_)
  · replace h := q_ifp (hc3) h
    exact ps_weak (he x1 (Option.some.inj h).symm) ⟨rfl, trivial⟩
  · replace h := q_ifn (hc3) h
    replace h := q_be h
    obtain ⟨v5, hv, h⟩ := h
    replace hv := q_fR_e hv
    obtain ⟨_, cv5, dv5⟩ := hv
    replace h := q_be h
    obtain ⟨a6, ea6, h⟩ := h
    subst ea6
    replace h := q_be h
    obtain ⟨v7, hv, h⟩ := h
    replace hv := q_aI_e hv
    obtain ⟨_, _, cv7, iv7, yv7⟩ := hv
    have kJ10 : ∀ w9 : Int32, w9 = (if v7 ≤ 0 then (0 : Int32) else (1 : Int32)) → ps_At mX0_above d 32 [(0, .ref x0), (2, .int x2)] [.int w9, .int x1] g Q := by
      rintro _ rfl
      refine sX0_above_32 ?_
      refine ⟨by decide, by decide, ?_⟩
      exact ps_weak (hh (x1 + (if v7 ≤ 0 then (0 : Int32) else (1 : Int32)), x2 + (1 : Int32)) (Option.some.inj h).symm) ⟨rfl, rfl, rfl, trivial⟩
    refine ⟨⟨some _, rfl⟩, _, _, cv5, dv5, _, _, cv7, iv7, _, yv7, ?_⟩
    refine And.intro (fun hc8 => ?_) (fun hc8 => ?_)
    · refine sX0_above_31 ?_
      exact ps_weak (kJ10 _ (if_pos (hc8)).symm) ⟨rfl, rfl, trivial⟩
    · exact ps_weak (kJ10 _ (if_neg (hc8)).symm) ⟨rfl, rfl, trivial⟩
noncomputable def fX0_above (g : ps_G) (x0 : Nat) : Option (Int32) := Option.bind (q_lp (fun s => bX0_above_4 g x0 s.1 s.2) ((0 : Int32), (0 : Int32))) fun s13 => some s13
theorem rX0_above {d : Nat} {Q : ps_Rs → ps_G → Prop} {g : ps_G} {x0 : Nat} {r : Int32} (h : fX0_above g x0 = some r) (hk : Q (.inl (some (.int r))) g) : ps_Ok mX0_above d [.ref x0] g Q := by
  unfold fX0_above at h
  refine sX0_above_0 ?_
  refine ⟨by decide, by decide, ?_⟩
  replace h := q_be h
  obtain ⟨s13, hl, h⟩ := h
  refine ps_weak (q_lp_ok hl (fun s => ps_At mX0_above d 4 [(0, .ref x0), (1, .int s.1), (2, .int s.2)] [] g Q) (fun r => ps_At mX0_above d 40 [(1, .int r)] [] g Q) (fun s x hb hh he => pbX0_above_4 hb hh he) ?_) ⟨rfl, rfl, rfl, trivial⟩
  refine (?_ : ps_At mX0_above d 40 [(1, .int s13)] [] g Q)
  refine sX0_above_40 ?_
  cases h
  exact ⟨rfl, hk⟩
noncomputable def jX11_select_216 (g : ps_G) (x0 : Nat) (x2 : Int32) : Option ((String ⊕ Int32) × ps_G) := Option.bind (q_fR 11 7 g x0) fun v9 => Option.bind (v9) fun a10 => Option.bind (q_ob 0 g a10) fun u11 => Option.bind (fX0_join g a10 x2) fun v12 => Option.bind (q_fR 11 7 v12 x0) fun v13 => Option.bind (v13) fun a14 => Option.bind (q_ob 0 v12 a14) fun u15 => Option.bind (fX0_above v12 a14) fun v16 => some (.inr v16, v12)
theorem pjX11_select_216 {d : Nat} {Q : ps_Rs → ps_G → Prop} {g : ps_G} {x0 : Nat} {x2 : Int32} {r : (String ⊕ Int32) × ps_G} (h : jX11_select_216 g x0 x2 = some r) (hk : Q (q_rI r.1) r.2) : ps_At mX11_select (d + 100) 216 [(0, .ref x0), (2, .int x2)] [] g Q := by
  unfold jX11_select_216 at h
  refine sX11_select_216 ?_
  replace h := q_be h
  obtain ⟨v9, hv, h⟩ := h
  replace hv := q_fR_e hv
  obtain ⟨_, cv9, dv9⟩ := hv
  replace h := q_be h
  obtain ⟨a10, ea10, h⟩ := h
  subst ea10
  replace h := q_be h
  obtain ⟨u11, hv, h⟩ := h
  replace hv := q_ob_e hv
  obtain ⟨_, cu11⟩ := hv
  replace h := q_be h
  obtain ⟨v12, hv, h⟩ := h
  refine ⟨⟨some _, rfl⟩, _, _, cv9, dv9, ⟨_, cu11⟩, ?_⟩
  refine rX0_join hv ?_
  replace h := q_be h
  obtain ⟨v13, hv, h⟩ := h
  replace hv := q_fR_e hv
  obtain ⟨_, cv13, dv13⟩ := hv
  replace h := q_be h
  obtain ⟨a14, ea14, h⟩ := h
  subst ea14
  replace h := q_be h
  obtain ⟨u15, hv, h⟩ := h
  replace hv := q_ob_e hv
  obtain ⟨_, cu15⟩ := hv
  replace h := q_be h
  obtain ⟨v16, hv, h⟩ := h
  refine ⟨⟨some _, rfl⟩, _, _, cv13, dv13, ⟨_, cu15⟩, ?_⟩
  refine rX0_above hv ?_
  cases h
  exact ⟨rfl, hk⟩
noncomputable def fX11_select (g : ps_G) (x0 : Nat) (x1 : Int32) (x2 : Int32) (x3 : Int32) (x4 : Int32) (x5 : Int32) (x6 : Int32) : Option ((String ⊕ Int32) × ps_G) := Option.bind (q_ob 11 g x0) fun u1 => q_tc (fX11_needShape g x0 x1 x2 x3 x4 x5 x6) fun v2 g3 => if x1 = 0 then (Option.bind (q_fR 11 7 g3 x0) fun v5 => Option.bind (v5) fun a6 => Option.bind (q_ob 0 g3 a6) fun u7 => Option.bind (fX0_box g3 a6 (0 : Int32) (0 : Int32) (24 : Int32) (24 : Int32)) fun v8 => jX11_select_216 v8 x0 x2) else (if x1 = 1 then (Option.bind (q_fR 11 7 g3 x0) fun v18 => Option.bind (v18) fun a19 => Option.bind (q_ob 0 g3 a19) fun u20 => Option.bind (fX0_box g3 a19 x3 x4 x5 x6) fun v21 => jX11_select_216 v21 x0 x2) else (if x1 = 2 then (Option.bind (q_fR 11 7 g3 x0) fun v23 => Option.bind (v23) fun a24 => Option.bind (q_ob 0 g3 a24) fun u25 => Option.bind (fX0_ellipse g3 a24 x3 x4 x5 x6) fun v26 => jX11_select_216 v26 x0 x2) else (if x1 = 3 then (Option.bind (q_fR 11 7 g3 x0) fun v28 => Option.bind (v28) fun a29 => Option.bind (q_fR 11 6 g3 x0) fun v30 => Option.bind (v30) fun a31 => Option.bind (q_fR 11 0 g3 x0) fun v32 => Option.bind (v32) fun a33 => Option.bind (q_ob 10 g3 a31) fun u34 => q_b2 (fX10_seen g3 a31 a33) fun v35 g36 => Option.bind (v35) fun a37 => Option.bind (q_ob 0 g36 a29) fun u38 => Option.bind (fX0_wand g36 a29 a37 x3 x4 x5) fun v39 => jX11_select_216 v39 x0 x2) else (if x1 = 4 then (Option.bind (q_fR 11 7 g3 x0) fun v41 => Option.bind (v41) fun a42 => Option.bind (q_fR 11 6 g3 x0) fun v43 => Option.bind (v43) fun a44 => Option.bind (q_fR 11 0 g3 x0) fun v45 => Option.bind (v45) fun a46 => Option.bind (q_ob 10 g3 a44) fun u47 => q_b2 (fX10_seen g3 a44 a46) fun v48 g49 => Option.bind (v48) fun a50 => Option.bind (q_ob 0 g49 a42) fun u51 => Option.bind (fX0_alike g49 a42 a50 x3 x4 x5) fun v52 => jX11_select_216 v52 x0 x2) else (if x1 = 5 then (Option.bind (q_fR 11 7 g3 x0) fun v54 => Option.bind (v54) fun a55 => Option.bind (q_ob 11 g3 x0) fun u56 => q_tc (fX11_selectable g3 x0 x3) fun v57 g58 => Option.bind (v57) fun a59 => Option.bind (q_ob 0 g58 a55) fun u60 => Option.bind (fX0_alphas g58 a55 a59) fun v61 => jX11_select_216 v61 x0 x2) else (Option.bind (q_fR 11 9 g3 x0) fun v62 => Option.bind (v62) fun a63 => Option.bind (q_ob 6 g3 a63) fun u64 => Option.bind (fX6_trace g3 a63 x3 (0 : Int32) (0 : Int32)) fun v65 => Option.bind (q_fR 11 9 v65 x0) fun v66 => Option.bind (v66) fun a67 => Option.bind (q_fR 11 0 v65 x0) fun v68 => Option.bind (v68) fun a69 => Option.bind (q_fI 9 0 v65 a69) fun v70 => Option.bind (q_fR 11 0 v65 x0) fun v71 => Option.bind (v71) fun a72 => Option.bind (q_fI 9 1 v65 a72) fun v73 => Option.bind (q_ob 6 v65 a67) fun u74 => Option.bind (fX6_measure v65 a67 x4 v70 v73) fun v75 => Option.bind (q_fR 11 7 v75 x0) fun v76 => Option.bind (v76) fun a77 => Option.bind (q_fR 11 9 v75 x0) fun v78 => Option.bind (v78) fun a79 => Option.bind (q_fR 6 14 v75 a79) fun v80 => Option.bind (v80) fun a81 => Option.bind (q_ob 0 v75 a77) fun u82 => Option.bind (fX0_covered v75 a77 a81) fun v83 => jX11_select_216 v83 x0 x2))))))
theorem rX11_select {d : Nat} {Q : ps_Rs → ps_G → Prop} {g : ps_G} {x0 : Nat} {x1 : Int32} {x2 : Int32} {x3 : Int32} {x4 : Int32} {x5 : Int32} {x6 : Int32} {r : (String ⊕ Int32) × ps_G} (h : fX11_select g x0 x1 x2 x3 x4 x5 x6 = some r) (hk : Q (q_rI r.1) r.2) : ps_Ok mX11_select (d + 100) [.ref x0, .int x1, .int x2, .int x3, .int x4, .int x5, .int x6] g Q := by
  unfold fX11_select at h
  refine sX11_select_0 ?_
  replace h := q_be h
  obtain ⟨u1, hv, h⟩ := h
  replace hv := q_ob_e hv
  obtain ⟨_, cu1⟩ := hv
  refine ⟨⟨some _, rfl⟩, ⟨_, cu1⟩, ?_⟩
  replace h := q_tc_e h
  rcases h with ⟨E, g3, hv, rfl⟩ | ⟨v2, g3, hv, h⟩
  · exact rX11_needShape hv hk
  refine rX11_needShape hv ?_
  refine sX11_select_14 ?_
  by_cases hc4 : x1 = 0
  · replace h := q_ifp hc4 h
    have eT : ps_tsel 14 155 0 5 #[38, 54, 71, 88, 114, 140] x1 = 52 := by
      rw [hc4]; decide +kernel
    refine ps_at_eq eT ?_
    refine sX11_select_52 ?_
    replace h := q_be h
    obtain ⟨v5, hv, h⟩ := h
    replace hv := q_fR_e hv
    obtain ⟨_, cv5, dv5⟩ := hv
    replace h := q_be h
    obtain ⟨a6, ea6, h⟩ := h
    subst ea6
    replace h := q_be h
    obtain ⟨u7, hv, h⟩ := h
    replace hv := q_ob_e hv
    obtain ⟨_, cu7⟩ := hv
    replace h := q_be h
    obtain ⟨v8, hv, h⟩ := h
    refine ⟨⟨some _, rfl⟩, _, _, cv5, dv5, ⟨_, cu7⟩, ?_⟩
    refine rX0_box hv ?_
    exact ps_weak (pjX11_select_216 h hk) ⟨rfl, rfl, trivial⟩
  replace h := q_ifn hc4 h
  by_cases hc17 : x1 = 1
  · replace h := q_ifp hc17 h
    have eT : ps_tsel 14 155 0 5 #[38, 54, 71, 88, 114, 140] x1 = 68 := by
      rw [hc17]; decide +kernel
    refine ps_at_eq eT ?_
    refine sX11_select_68 ?_
    replace h := q_be h
    obtain ⟨v18, hv, h⟩ := h
    replace hv := q_fR_e hv
    obtain ⟨_, cv18, dv18⟩ := hv
    replace h := q_be h
    obtain ⟨a19, ea19, h⟩ := h
    subst ea19
    replace h := q_be h
    obtain ⟨u20, hv, h⟩ := h
    replace hv := q_ob_e hv
    obtain ⟨_, cu20⟩ := hv
    replace h := q_be h
    obtain ⟨v21, hv, h⟩ := h
    refine ⟨⟨some _, rfl⟩, _, _, cv18, dv18, ⟨_, cu20⟩, ?_⟩
    refine rX0_box hv ?_
    exact ps_weak (pjX11_select_216 h hk) ⟨rfl, rfl, trivial⟩
  replace h := q_ifn hc17 h
  by_cases hc22 : x1 = 2
  · replace h := q_ifp hc22 h
    have eT : ps_tsel 14 155 0 5 #[38, 54, 71, 88, 114, 140] x1 = 85 := by
      rw [hc22]; decide +kernel
    refine ps_at_eq eT ?_
    refine sX11_select_85 ?_
    replace h := q_be h
    obtain ⟨v23, hv, h⟩ := h
    replace hv := q_fR_e hv
    obtain ⟨_, cv23, dv23⟩ := hv
    replace h := q_be h
    obtain ⟨a24, ea24, h⟩ := h
    subst ea24
    replace h := q_be h
    obtain ⟨u25, hv, h⟩ := h
    replace hv := q_ob_e hv
    obtain ⟨_, cu25⟩ := hv
    replace h := q_be h
    obtain ⟨v26, hv, h⟩ := h
    refine ⟨⟨some _, rfl⟩, _, _, cv23, dv23, ⟨_, cu25⟩, ?_⟩
    refine rX0_ellipse hv ?_
    exact ps_weak (pjX11_select_216 h hk) ⟨rfl, rfl, trivial⟩
  replace h := q_ifn hc22 h
  by_cases hc27 : x1 = 3
  · replace h := q_ifp hc27 h
    have eT : ps_tsel 14 155 0 5 #[38, 54, 71, 88, 114, 140] x1 = 102 := by
      rw [hc27]; decide +kernel
    refine ps_at_eq eT ?_
    refine sX11_select_102 ?_
    replace h := q_be h
    obtain ⟨v28, hv, h⟩ := h
    replace hv := q_fR_e hv
    obtain ⟨_, cv28, dv28⟩ := hv
    replace h := q_be h
    obtain ⟨a29, ea29, h⟩ := h
    subst ea29
    replace h := q_be h
    obtain ⟨v30, hv, h⟩ := h
    replace hv := q_fR_e hv
    obtain ⟨_, cv30, dv30⟩ := hv
    replace h := q_be h
    obtain ⟨a31, ea31, h⟩ := h
    subst ea31
    replace h := q_be h
    obtain ⟨v32, hv, h⟩ := h
    replace hv := q_fR_e hv
    obtain ⟨_, cv32, dv32⟩ := hv
    replace h := q_be h
    obtain ⟨a33, ea33, h⟩ := h
    subst ea33
    replace h := q_be h
    obtain ⟨u34, hv, h⟩ := h
    replace hv := q_ob_e hv
    obtain ⟨_, cu34⟩ := hv
    replace h := q_b2_e h
    obtain ⟨v35, g36, hv, h⟩ := h
    refine ⟨⟨some _, rfl⟩, _, _, cv28, dv28, ⟨some _, rfl⟩, _, _, cv30, dv30, ⟨some _, rfl⟩, _, _, cv32, dv32, ⟨_, cu34⟩, ?_⟩
    refine rX10_seen hv ?_
    replace h := q_be h
    obtain ⟨a37, ea37, h⟩ := h
    subst ea37
    replace h := q_be h
    obtain ⟨u38, hv, h⟩ := h
    replace hv := q_ob_e hv
    obtain ⟨_, cu38⟩ := hv
    replace h := q_be h
    obtain ⟨v39, hv, h⟩ := h
    refine ⟨⟨_, cu38⟩, ?_⟩
    refine rX0_wand hv ?_
    exact ps_weak (pjX11_select_216 h hk) ⟨rfl, rfl, trivial⟩
  replace h := q_ifn hc27 h
  by_cases hc40 : x1 = 4
  · replace h := q_ifp hc40 h
    have eT : ps_tsel 14 155 0 5 #[38, 54, 71, 88, 114, 140] x1 = 128 := by
      rw [hc40]; decide +kernel
    refine ps_at_eq eT ?_
    refine sX11_select_128 ?_
    replace h := q_be h
    obtain ⟨v41, hv, h⟩ := h
    replace hv := q_fR_e hv
    obtain ⟨_, cv41, dv41⟩ := hv
    replace h := q_be h
    obtain ⟨a42, ea42, h⟩ := h
    subst ea42
    replace h := q_be h
    obtain ⟨v43, hv, h⟩ := h
    replace hv := q_fR_e hv
    obtain ⟨_, cv43, dv43⟩ := hv
    replace h := q_be h
    obtain ⟨a44, ea44, h⟩ := h
    subst ea44
    replace h := q_be h
    obtain ⟨v45, hv, h⟩ := h
    replace hv := q_fR_e hv
    obtain ⟨_, cv45, dv45⟩ := hv
    replace h := q_be h
    obtain ⟨a46, ea46, h⟩ := h
    subst ea46
    replace h := q_be h
    obtain ⟨u47, hv, h⟩ := h
    replace hv := q_ob_e hv
    obtain ⟨_, cu47⟩ := hv
    replace h := q_b2_e h
    obtain ⟨v48, g49, hv, h⟩ := h
    refine ⟨⟨some _, rfl⟩, _, _, cv41, dv41, ⟨some _, rfl⟩, _, _, cv43, dv43, ⟨some _, rfl⟩, _, _, cv45, dv45, ⟨_, cu47⟩, ?_⟩
    refine rX10_seen hv ?_
    replace h := q_be h
    obtain ⟨a50, ea50, h⟩ := h
    subst ea50
    replace h := q_be h
    obtain ⟨u51, hv, h⟩ := h
    replace hv := q_ob_e hv
    obtain ⟨_, cu51⟩ := hv
    replace h := q_be h
    obtain ⟨v52, hv, h⟩ := h
    refine ⟨⟨_, cu51⟩, ?_⟩
    refine rX0_alike hv ?_
    exact ps_weak (pjX11_select_216 h hk) ⟨rfl, rfl, trivial⟩
  replace h := q_ifn hc40 h
  by_cases hc53 : x1 = 5
  · replace h := q_ifp hc53 h
    have eT : ps_tsel 14 155 0 5 #[38, 54, 71, 88, 114, 140] x1 = 154 := by
      rw [hc53]; decide +kernel
    refine ps_at_eq eT ?_
    refine sX11_select_154 ?_
    replace h := q_be h
    obtain ⟨v54, hv, h⟩ := h
    replace hv := q_fR_e hv
    obtain ⟨_, cv54, dv54⟩ := hv
    replace h := q_be h
    obtain ⟨a55, ea55, h⟩ := h
    subst ea55
    replace h := q_be h
    obtain ⟨u56, hv, h⟩ := h
    replace hv := q_ob_e hv
    obtain ⟨_, cu56⟩ := hv
    refine ⟨⟨some _, rfl⟩, _, _, cv54, dv54, ⟨some _, rfl⟩, ⟨_, cu56⟩, ?_⟩
    replace h := q_tc_e h
    rcases h with ⟨E, g58, hv, rfl⟩ | ⟨v57, g58, hv, h⟩
    · exact rX11_selectable hv hk
    refine rX11_selectable hv ?_
    replace h := q_be h
    obtain ⟨a59, ea59, h⟩ := h
    subst ea59
    replace h := q_be h
    obtain ⟨u60, hv, h⟩ := h
    replace hv := q_ob_e hv
    obtain ⟨_, cu60⟩ := hv
    replace h := q_be h
    obtain ⟨v61, hv, h⟩ := h
    refine ⟨⟨_, cu60⟩, ?_⟩
    refine rX0_alphas hv ?_
    exact ps_weak (pjX11_select_216 h hk) ⟨rfl, rfl, trivial⟩
  replace h := q_ifn hc53 h
  have eD : ps_tsel 14 155 0 5 #[38, 54, 71, 88, 114, 140] x1 = 169 := by
    refine q_tsd (by decide +kernel) (fun z h1 h2 => ?_)
    have hz : z = 0 ∨ z = 1 ∨ z = 2 ∨ z = 3 ∨ z = 4 ∨ z = 5 := by omega
    rcases hz with rfl | rfl | rfl | rfl | rfl | rfl
    · exact Or.inl (q_tsx (v := 0) (fun z => hc4 z))
    · exact Or.inl (q_tsx (v := 1) (fun z => hc17 z))
    · exact Or.inl (q_tsx (v := 2) (fun z => hc22 z))
    · exact Or.inl (q_tsx (v := 3) (fun z => hc27 z))
    · exact Or.inl (q_tsx (v := 4) (fun z => hc40 z))
    · exact Or.inl (q_tsx (v := 5) (fun z => hc53 z))
  refine ps_at_eq eD ?_
  refine sX11_select_169 ?_
  replace h := q_be h
  obtain ⟨v62, hv, h⟩ := h
  replace hv := q_fR_e hv
  obtain ⟨_, cv62, dv62⟩ := hv
  replace h := q_be h
  obtain ⟨a63, ea63, h⟩ := h
  subst ea63
  replace h := q_be h
  obtain ⟨u64, hv, h⟩ := h
  replace hv := q_ob_e hv
  obtain ⟨_, cu64⟩ := hv
  replace h := q_be h
  obtain ⟨v65, hv, h⟩ := h
  refine ⟨⟨some _, rfl⟩, _, _, cv62, dv62, ⟨_, cu64⟩, ?_⟩
  refine rX6_trace hv ?_
  replace h := q_be h
  obtain ⟨v66, hv, h⟩ := h
  replace hv := q_fR_e hv
  obtain ⟨_, cv66, dv66⟩ := hv
  replace h := q_be h
  obtain ⟨a67, ea67, h⟩ := h
  subst ea67
  replace h := q_be h
  obtain ⟨v68, hv, h⟩ := h
  replace hv := q_fR_e hv
  obtain ⟨_, cv68, dv68⟩ := hv
  replace h := q_be h
  obtain ⟨a69, ea69, h⟩ := h
  subst ea69
  replace h := q_be h
  obtain ⟨v70, hv, h⟩ := h
  replace hv := q_fI_e hv
  obtain ⟨_, cv70, dv70⟩ := hv
  replace h := q_be h
  obtain ⟨v71, hv, h⟩ := h
  replace hv := q_fR_e hv
  obtain ⟨_, cv71, dv71⟩ := hv
  replace h := q_be h
  obtain ⟨a72, ea72, h⟩ := h
  subst ea72
  replace h := q_be h
  obtain ⟨v73, hv, h⟩ := h
  replace hv := q_fI_e hv
  obtain ⟨_, cv73, dv73⟩ := hv
  replace h := q_be h
  obtain ⟨u74, hv, h⟩ := h
  replace hv := q_ob_e hv
  obtain ⟨_, cu74⟩ := hv
  replace h := q_be h
  obtain ⟨v75, hv, h⟩ := h
  refine ⟨⟨some _, rfl⟩, _, _, cv66, dv66, ⟨some _, rfl⟩, _, _, cv68, dv68, _, _, cv70, dv70, ⟨some _, rfl⟩, _, _, cv71, dv71, _, _, cv73, dv73, ⟨_, cu74⟩, ?_⟩
  refine rX6_measure hv ?_
  replace h := q_be h
  obtain ⟨v76, hv, h⟩ := h
  replace hv := q_fR_e hv
  obtain ⟨_, cv76, dv76⟩ := hv
  replace h := q_be h
  obtain ⟨a77, ea77, h⟩ := h
  subst ea77
  replace h := q_be h
  obtain ⟨v78, hv, h⟩ := h
  replace hv := q_fR_e hv
  obtain ⟨_, cv78, dv78⟩ := hv
  replace h := q_be h
  obtain ⟨a79, ea79, h⟩ := h
  subst ea79
  replace h := q_be h
  obtain ⟨v80, hv, h⟩ := h
  replace hv := q_fR_e hv
  obtain ⟨_, cv80, dv80⟩ := hv
  replace h := q_be h
  obtain ⟨a81, ea81, h⟩ := h
  subst ea81
  replace h := q_be h
  obtain ⟨u82, hv, h⟩ := h
  replace hv := q_ob_e hv
  obtain ⟨_, cu82⟩ := hv
  replace h := q_be h
  obtain ⟨v83, hv, h⟩ := h
  refine ⟨⟨some _, rfl⟩, _, _, cv76, dv76, ⟨some _, rfl⟩, _, _, cv78, dv78, _, _, cv80, dv80, ⟨_, cu82⟩, ?_⟩
  refine rX0_covered hv ?_
  exact ps_weak (pjX11_select_216 h hk) ⟨rfl, rfl, trivial⟩
noncomputable def bX0_turnOver_2 (x0 : Nat) (x1 : Int32) (g : ps_G) : Option ((Int32 × ps_G) ⊕ (ps_G)) := Option.bind (q_fI 0 0 g x0) fun v1 => Option.bind (q_fI 0 1 g x0) fun v2 => if (v1 * v2) ≤ x1 then (some (.inr g)) else (Option.bind (q_fR 0 2 g x0) fun v5 => Option.bind (v5) fun a6 => Option.bind (q_fR 0 2 g x0) fun v7 => Option.bind (v7) fun a8 => Option.bind (q_aI g a8 x1) fun v9 => Option.bind (q_wI g a6 x1 ((255 : Int32) - v9)) fun g10 => some (.inl (x1 + (1 : Int32), g10)))
theorem pbX0_turnOver_2 {d : Nat} {Q : ps_Rs → ps_G → Prop}  {x0 : Nat} {x1 : Int32} {g : ps_G} {x : (Int32 × ps_G) ⊕ (ps_G)} (h : bX0_turnOver_2 x0 x1 g = some x) (hh : ∀ s' : Int32 × ps_G, x = .inl s' → ps_At mX0_turnOver d 2 [(0, .ref x0), (1, .int s'.1)] [] s'.2 Q) (he : ∀ r' : ps_G, x = .inr r' → ps_At mX0_turnOver d 37 [] [] r' Q) : ps_At mX0_turnOver d 2 [(0, .ref x0), (1, .int x1)] [] g Q := by
  unfold bX0_turnOver_2 at h
  refine sX0_turnOver_2 ?_
  replace h := q_be h
  obtain ⟨v1, hv, h⟩ := h
  replace hv := q_fI_e hv
  obtain ⟨_, cv1, dv1⟩ := hv
  replace h := q_be h
  obtain ⟨v2, hv, h⟩ := h
  replace hv := q_fI_e hv
  obtain ⟨_, cv2, dv2⟩ := hv
  refine ⟨⟨some _, rfl⟩, _, _, cv1, dv1, ⟨some _, rfl⟩, _, _, cv2, dv2, ?_⟩
  refine And.intro (fun hc3 => ?_) (fun hc3 => ?_)
  · replace h := q_ifp (hc3) h
    exact ps_weak (he g (Option.some.inj h).symm) trivial
  · replace h := q_ifn (hc3) h
    replace h := q_be h
    obtain ⟨v5, hv, h⟩ := h
    replace hv := q_fR_e hv
    obtain ⟨_, cv5, dv5⟩ := hv
    replace h := q_be h
    obtain ⟨a6, ea6, h⟩ := h
    subst ea6
    replace h := q_be h
    obtain ⟨v7, hv, h⟩ := h
    replace hv := q_fR_e hv
    obtain ⟨_, cv7, dv7⟩ := hv
    replace h := q_be h
    obtain ⟨a8, ea8, h⟩ := h
    subst ea8
    replace h := q_be h
    obtain ⟨v9, hv, h⟩ := h
    replace hv := q_aI_e hv
    obtain ⟨_, _, cv9, iv9, yv9⟩ := hv
    replace h := q_be h
    obtain ⟨g10, hv, h⟩ := h
    replace hv := q_wI_e hv
    obtain ⟨_, _, cg10, pg10, ig10, yg10⟩ := hv
    refine ⟨⟨some _, rfl⟩, _, _, cv5, dv5, ⟨some _, rfl⟩, _, _, cv7, dv7, _, _, cv9, iv9, _, yv9, _, _, cg10, pg10, ig10, _, yg10, by decide, ?_⟩
    exact ps_weak (hh (x1 + (1 : Int32), g10) (Option.some.inj h).symm) ⟨rfl, rfl, trivial⟩
noncomputable def fX0_turnOver (g : ps_G) (x0 : Nat) : Option (ps_G) := Option.bind (q_lp (fun s => bX0_turnOver_2 x0 s.1 s.2) ((0 : Int32), g)) fun s13 => some s13
theorem rX0_turnOver {d : Nat} {Q : ps_Rs → ps_G → Prop} {g : ps_G} {x0 : Nat} {r : ps_G} (h : fX0_turnOver g x0 = some r) (hk : Q (.inl none) r) : ps_Ok mX0_turnOver d [.ref x0] g Q := by
  unfold fX0_turnOver at h
  refine sX0_turnOver_0 ?_
  refine ⟨by decide, ?_⟩
  replace h := q_be h
  obtain ⟨s13, hl, h⟩ := h
  refine ps_weak (q_lp_ok hl (fun s => ps_At mX0_turnOver d 2 [(0, .ref x0), (1, .int s.1)] [] s.2 Q) (fun r => ps_At mX0_turnOver d 37 [] [] r Q) (fun s x hb hh he => pbX0_turnOver_2 hb hh he) ?_) ⟨rfl, rfl, trivial⟩
  refine (?_ : ps_At mX0_turnOver d 37 [] [] s13 Q)
  refine sX0_turnOver_37 ?_
  cases h
  exact ⟨rfl, rfl, hk⟩
noncomputable def jX0_widen_129_73 (g : ps_G) (x0 : Nat) (x1 : Int32) (x2 : Int32) (x3 : Int32) (x4 : Int32) (x5 : Int32) (x6 : Int32) (x7 : Int32) (k0 : Int32) : Option ((Int32 × Int32) ⊕ (Int32)) := some (.inl ((if x2 = 0 then fJ9_min_7cf53 x5 k0 else fJ9_max_7cf53 x5 k0), x7 + (1 : Int32)))
theorem pjX0_widen_129_73 {d : Nat} {Q : ps_Rs → ps_G → Prop} {g : ps_G} {x0 : Nat} {x1 : Int32} {x2 : Int32} {x3 : Int32} {x4 : Int32} {x5 : Int32} {x6 : Int32} {x7 : Int32} {k0 : Int32} {x : (Int32 × Int32) ⊕ (Int32)} (h : jX0_widen_129_73 g x0 x1 x2 x3 x4 x5 x6 x7 k0 = some x) (hh : ∀ s' : Int32 × Int32, x = .inl s' → ps_At mX0_widen (d + 2) 73 [(0, .ref x0), (1, .int x1), (2, .int x2), (3, .int x3), (4, .int x4), (5, .int s'.1), (6, .int x6), (7, .int s'.2)] [] g Q) (he : ∀ r' : Int32, x = .inr r' → ps_At mX0_widen (d + 2) 160 [(0, .ref x0), (1, .int x1), (2, .int x2), (3, .int x3), (4, .int x4), (5, .int r'), (6, .int x6)] [] g Q) : ps_At mX0_widen (d + 2) 129 [(0, .ref x0), (1, .int x1), (2, .int x2), (3, .int x3), (4, .int x4), (5, .int x5), (6, .int x6), (7, .int x7)] [.int k0] g Q := by
  unfold jX0_widen_129_73 at h
  refine sX0_widen_129 ?_
  have kJ23 : ∀ w22 : Int32, w22 = (if x2 = 0 then fJ9_min_7cf53 x5 k0 else fJ9_max_7cf53 x5 k0) → ps_At mX0_widen (d + 2) 152 [(0, .ref x0), (1, .int x1), (2, .int x2), (3, .int x3), (4, .int x4), (6, .int x6), (7, .int x7)] [.int w22] g Q := by
    rintro _ rfl
    refine sX0_widen_152 ?_
    refine ⟨by decide, by decide, ?_⟩
    exact ps_weak (hh ((if x2 = 0 then fJ9_min_7cf53 x5 k0 else fJ9_max_7cf53 x5 k0), x7 + (1 : Int32)) (Option.some.inj h).symm) ⟨rfl, rfl, rfl, rfl, rfl, rfl, rfl, rfl, trivial⟩
  refine ⟨by decide, ?_⟩
  refine And.intro (fun hc21 => ?_) (fun hc21 => ?_)
  · refine sX0_widen_145 ?_
    refine rJ9_min_7cf53 rfl ?_
    exact ps_weak (kJ23 _ (if_pos (hc21)).symm) ⟨rfl, rfl, rfl, rfl, rfl, rfl, rfl, trivial⟩
  · refine rJ9_max_7cf53 rfl ?_
    exact ps_weak (kJ23 _ (if_neg (hc21)).symm) ⟨rfl, rfl, rfl, rfl, rfl, rfl, rfl, trivial⟩
noncomputable def jX0_widen_110_73 (g : ps_G) (x0 : Nat) (x1 : Int32) (x2 : Int32) (x3 : Int32) (x4 : Int32) (x5 : Int32) (x6 : Int32) (x7 : Int32) : Option ((Int32 × Int32) ⊕ (Int32)) := jX0_widen_129_73 g x0 x1 x2 x3 x4 x5 x6 x7 (0 : Int32)
theorem pjX0_widen_110_73 {d : Nat} {Q : ps_Rs → ps_G → Prop} {g : ps_G} {x0 : Nat} {x1 : Int32} {x2 : Int32} {x3 : Int32} {x4 : Int32} {x5 : Int32} {x6 : Int32} {x7 : Int32} {x : (Int32 × Int32) ⊕ (Int32)} (h : jX0_widen_110_73 g x0 x1 x2 x3 x4 x5 x6 x7 = some x) (hh : ∀ s' : Int32 × Int32, x = .inl s' → ps_At mX0_widen (d + 2) 73 [(0, .ref x0), (1, .int x1), (2, .int x2), (3, .int x3), (4, .int x4), (5, .int s'.1), (6, .int x6), (7, .int s'.2)] [] g Q) (he : ∀ r' : Int32, x = .inr r' → ps_At mX0_widen (d + 2) 160 [(0, .ref x0), (1, .int x1), (2, .int x2), (3, .int x3), (4, .int x4), (5, .int r'), (6, .int x6)] [] g Q) : ps_At mX0_widen (d + 2) 110 [(0, .ref x0), (1, .int x1), (2, .int x2), (3, .int x3), (4, .int x4), (5, .int x5), (6, .int x6), (7, .int x7)] [] g Q := by
  unfold jX0_widen_110_73 at h
  refine sX0_widen_110 ?_
  exact ps_weak (pjX0_widen_129_73 h hh he) ⟨rfl, rfl, rfl, rfl, rfl, rfl, rfl, rfl, trivial⟩
noncomputable def bX0_widen_73 (g : ps_G) (x0 : Nat) (x1 : Int32) (x2 : Int32) (x3 : Int32) (x4 : Int32) (x6 : Int32) (x5 : Int32) (x7 : Int32) : Option ((Int32 × Int32) ⊕ (Int32)) := if (x4 + x1) < x7 then (some (.inr x5)) else (if (x7 < 0) ∨ (x6 < 0) then (jX0_widen_110_73 g x0 x1 x2 x3 x4 x5 x6 x7) else (Option.bind (q_fI 0 0 g x0) fun v24 => if v24 ≤ x7 then (jX0_widen_110_73 g x0 x1 x2 x3 x4 x5 x6 x7) else (Option.bind (q_fI 0 1 g x0) fun v26 => if x6 < v26 then (Option.bind (q_fR 0 4 g x0) fun v29 => Option.bind (v29) fun a30 => Option.bind (q_fI 0 0 g x0) fun v31 => Option.bind (q_aI g a30 ((x6 * v31) + x7)) fun v32 => jX0_widen_129_73 g x0 x1 x2 x3 x4 x5 x6 x7 v32) else (jX0_widen_110_73 g x0 x1 x2 x3 x4 x5 x6 x7))))
theorem pbX0_widen_73 {d : Nat} {Q : ps_Rs → ps_G → Prop} {g : ps_G} {x0 : Nat} {x1 : Int32} {x2 : Int32} {x3 : Int32} {x4 : Int32} {x6 : Int32} {x5 : Int32} {x7 : Int32} {x : (Int32 × Int32) ⊕ (Int32)} (h : bX0_widen_73 g x0 x1 x2 x3 x4 x6 x5 x7 = some x) (hh : ∀ s' : Int32 × Int32, x = .inl s' → ps_At mX0_widen (d + 2) 73 [(0, .ref x0), (1, .int x1), (2, .int x2), (3, .int x3), (4, .int x4), (5, .int s'.1), (6, .int x6), (7, .int s'.2)] [] g Q) (he : ∀ r' : Int32, x = .inr r' → ps_At mX0_widen (d + 2) 160 [(0, .ref x0), (1, .int x1), (2, .int x2), (3, .int x3), (4, .int x4), (5, .int r'), (6, .int x6)] [] g Q) : ps_At mX0_widen (d + 2) 73 [(0, .ref x0), (1, .int x1), (2, .int x2), (3, .int x3), (4, .int x4), (5, .int x5), (6, .int x6), (7, .int x7)] [] g Q := by
  unfold bX0_widen_73 at h
  refine sX0_widen_73 ?_
  refine And.intro (fun hc16 => ?_) (fun hc16 => ?_)
  · replace h := q_ifp (hc16) h
    exact ps_weak (he x5 (Option.some.inj h).symm) ⟨rfl, rfl, rfl, rfl, rfl, rfl, rfl, trivial⟩
  · replace h := q_ifn (hc16) h
    have kT37 : (jX0_widen_110_73 g x0 x1 x2 x3 x4 x5 x6 x7) = some x → ps_At mX0_widen (d + 2) 110 [(0, .ref x0), (1, .int x1), (2, .int x2), (3, .int x3), (4, .int x4), (5, .int x5), (6, .int x6), (7, .int x7)] [] g Q := fun h => by
      exact ps_weak (pjX0_widen_110_73 h hh he) ⟨rfl, rfl, rfl, rfl, rfl, rfl, rfl, rfl, trivial⟩
    refine And.intro (fun hc19 => ?_) (fun hc19 => ?_)
    · exact ps_weak (kT37 (q_ifp (Or.inl hc19) h)) ⟨rfl, rfl, rfl, rfl, rfl, rfl, rfl, rfl, trivial⟩
    · refine And.intro (fun hc20 => ?_) (fun hc20 => ?_)
      · exact ps_weak (kT37 (q_ifp (Or.inr (hc20)) h)) ⟨rfl, rfl, rfl, rfl, rfl, rfl, rfl, rfl, trivial⟩
      · replace h := q_ifn (not_or.mpr ⟨hc19, hc20⟩) h
        replace h := q_be h
        obtain ⟨v24, hv, h⟩ := h
        replace hv := q_fI_e hv
        obtain ⟨_, cv24, dv24⟩ := hv
        refine ⟨⟨some _, rfl⟩, _, _, cv24, dv24, ?_⟩
        refine And.intro (fun hc25 => ?_) (fun hc25 => ?_)
        · replace h := q_ifp (hc25) h
          exact ps_weak (pjX0_widen_110_73 h hh he) ⟨rfl, rfl, rfl, rfl, rfl, rfl, rfl, rfl, trivial⟩
        · replace h := q_ifn (hc25) h
          replace h := q_be h
          obtain ⟨v26, hv, h⟩ := h
          replace hv := q_fI_e hv
          obtain ⟨_, cv26, dv26⟩ := hv
          refine ⟨⟨some _, rfl⟩, _, _, cv26, dv26, ?_⟩
          refine And.intro (fun hc27 => ?_) (fun hc27 => ?_)
          · replace h := q_ifp (hc27) h
            refine sX0_widen_114 ?_
            replace h := q_be h
            obtain ⟨v29, hv, h⟩ := h
            replace hv := q_fR_e hv
            obtain ⟨_, cv29, dv29⟩ := hv
            replace h := q_be h
            obtain ⟨a30, ea30, h⟩ := h
            subst ea30
            replace h := q_be h
            obtain ⟨v31, hv, h⟩ := h
            replace hv := q_fI_e hv
            obtain ⟨_, cv31, dv31⟩ := hv
            replace h := q_be h
            obtain ⟨v32, hv, h⟩ := h
            replace hv := q_aI_e hv
            obtain ⟨_, _, cv32, iv32, yv32⟩ := hv
            refine ⟨⟨some _, rfl⟩, _, _, cv29, dv29, ⟨some _, rfl⟩, _, _, cv31, dv31, _, _, cv32, iv32, _, yv32, ?_⟩
            exact ps_weak (pjX0_widen_129_73 h hh he) ⟨rfl, rfl, rfl, rfl, rfl, rfl, rfl, rfl, trivial⟩
          · replace h := q_ifn (hc27) h
            exact ps_weak (pjX0_widen_110_73 h hh he) ⟨rfl, rfl, rfl, rfl, rfl, rfl, rfl, rfl, trivial⟩
noncomputable def bX0_widen_59 (g : ps_G) (x0 : Nat) (x1 : Int32) (x2 : Int32) (x3 : Int32) (x4 : Int32) (x5 : Int32) (x6 : Int32) : Option ((Int32 × Int32) ⊕ (Int32)) := if (x3 + x1) < x6 then (some (.inr x5)) else (Option.bind (q_lp (fun s => bX0_widen_73 g x0 x1 x2 x3 x4 x6 s.1 s.2) (x5, x4 - x1)) fun s41 => some (.inl (s41, x6 + (1 : Int32))))
theorem pbX0_widen_59 {d : Nat} {Q : ps_Rs → ps_G → Prop} {g : ps_G} {x0 : Nat} {x1 : Int32} {x2 : Int32} {x3 : Int32} {x4 : Int32} {x5 : Int32} {x6 : Int32} {x : (Int32 × Int32) ⊕ (Int32)} (h : bX0_widen_59 g x0 x1 x2 x3 x4 x5 x6 = some x) (hh : ∀ s' : Int32 × Int32, x = .inl s' → ps_At mX0_widen (d + 2) 59 [(0, .ref x0), (1, .int x1), (2, .int x2), (3, .int x3), (4, .int x4), (5, .int s'.1), (6, .int s'.2)] [] g Q) (he : ∀ r' : Int32, x = .inr r' → ps_At mX0_widen (d + 2) 166 [(0, .ref x0), (1, .int x1), (2, .int x2), (3, .int x3), (4, .int x4), (5, .int r')] [] g Q) : ps_At mX0_widen (d + 2) 59 [(0, .ref x0), (1, .int x1), (2, .int x2), (3, .int x3), (4, .int x4), (5, .int x5), (6, .int x6)] [] g Q := by
  unfold bX0_widen_59 at h
  refine sX0_widen_59 ?_
  refine And.intro (fun hc15 => ?_) (fun hc15 => ?_)
  · replace h := q_ifp (hc15) h
    exact ps_weak (he x5 (Option.some.inj h).symm) ⟨rfl, rfl, rfl, rfl, rfl, rfl, trivial⟩
  · replace h := q_ifn (hc15) h
    refine ⟨by decide, ?_⟩
    replace h := q_be h
    obtain ⟨s41, hl, h⟩ := h
    refine ps_weak (q_lp_ok hl (fun s => ps_At mX0_widen (d + 2) 73 [(0, .ref x0), (1, .int x1), (2, .int x2), (3, .int x3), (4, .int x4), (5, .int s.1), (6, .int x6), (7, .int s.2)] [] g Q) (fun r => ps_At mX0_widen (d + 2) 160 [(0, .ref x0), (1, .int x1), (2, .int x2), (3, .int x3), (4, .int x4), (5, .int r), (6, .int x6)] [] g Q) (fun s x hb hh he => pbX0_widen_73 hb hh he) ?_) ⟨rfl, rfl, rfl, rfl, rfl, rfl, rfl, rfl, trivial⟩
    refine (?_ : ps_At mX0_widen (d + 2) 160 [(0, .ref x0), (1, .int x1), (2, .int x2), (3, .int x3), (4, .int x4), (5, .int s41), (6, .int x6)] [] g Q)
    refine sX0_widen_160 ?_
    refine ⟨by decide, ?_⟩
    exact ps_weak (hh (s41, x6 + (1 : Int32)) (Option.some.inj h).symm) ⟨rfl, rfl, rfl, rfl, rfl, rfl, rfl, trivial⟩
noncomputable def bX0_widen_29 (x0 : Nat) (x1 : Int32) (x2 : Int32) (x3 : Int32) (x4 : Int32) (g : ps_G) : Option ((Int32 × ps_G) ⊕ (ps_G)) := Option.bind (q_fI 0 0 g x0) fun v8 => if v8 ≤ x4 then (some (.inr g)) else (Option.bind (q_fR 0 4 g x0) fun v11 => Option.bind (v11) fun a12 => Option.bind (q_fI 0 0 g x0) fun v13 => Option.bind (q_aI g a12 ((x3 * v13) + x4)) fun v14 => Option.bind (q_lp (fun s => bX0_widen_59 g x0 x1 x2 x3 x4 s.1 s.2) (v14, x3 - x1)) fun s44 => Option.bind (q_fR 0 2 g x0) fun v45 => Option.bind (v45) fun a46 => Option.bind (q_fI 0 0 g x0) fun v47 => Option.bind (q_wI g a46 ((x3 * v47) + x4) s44) fun g48 => some (.inl (x4 + (1 : Int32), g48)))
theorem pbX0_widen_29 {d : Nat} {Q : ps_Rs → ps_G → Prop}  {x0 : Nat} {x1 : Int32} {x2 : Int32} {x3 : Int32} {x4 : Int32} {g : ps_G} {x : (Int32 × ps_G) ⊕ (ps_G)} (h : bX0_widen_29 x0 x1 x2 x3 x4 g = some x) (hh : ∀ s' : Int32 × ps_G, x = .inl s' → ps_At mX0_widen (d + 2) 29 [(0, .ref x0), (1, .int x1), (2, .int x2), (3, .int x3), (4, .int s'.1)] [] s'.2 Q) (he : ∀ r' : ps_G, x = .inr r' → ps_At mX0_widen (d + 2) 188 [(0, .ref x0), (1, .int x1), (2, .int x2), (3, .int x3)] [] r' Q) : ps_At mX0_widen (d + 2) 29 [(0, .ref x0), (1, .int x1), (2, .int x2), (3, .int x3), (4, .int x4)] [] g Q := by
  unfold bX0_widen_29 at h
  refine sX0_widen_29 ?_
  replace h := q_be h
  obtain ⟨v8, hv, h⟩ := h
  replace hv := q_fI_e hv
  obtain ⟨_, cv8, dv8⟩ := hv
  refine ⟨⟨some _, rfl⟩, _, _, cv8, dv8, ?_⟩
  refine And.intro (fun hc9 => ?_) (fun hc9 => ?_)
  · replace h := q_ifp (hc9) h
    exact ps_weak (he g (Option.some.inj h).symm) ⟨rfl, rfl, rfl, rfl, trivial⟩
  · replace h := q_ifn (hc9) h
    replace h := q_be h
    obtain ⟨v11, hv, h⟩ := h
    replace hv := q_fR_e hv
    obtain ⟨_, cv11, dv11⟩ := hv
    replace h := q_be h
    obtain ⟨a12, ea12, h⟩ := h
    subst ea12
    replace h := q_be h
    obtain ⟨v13, hv, h⟩ := h
    replace hv := q_fI_e hv
    obtain ⟨_, cv13, dv13⟩ := hv
    replace h := q_be h
    obtain ⟨v14, hv, h⟩ := h
    replace hv := q_aI_e hv
    obtain ⟨_, _, cv14, iv14, yv14⟩ := hv
    refine ⟨⟨some _, rfl⟩, _, _, cv11, dv11, ⟨some _, rfl⟩, _, _, cv13, dv13, _, _, cv14, iv14, _, yv14, by decide, by decide, ?_⟩
    replace h := q_be h
    obtain ⟨s44, hl, h⟩ := h
    refine ps_weak (q_lp_ok hl (fun s => ps_At mX0_widen (d + 2) 59 [(0, .ref x0), (1, .int x1), (2, .int x2), (3, .int x3), (4, .int x4), (5, .int s.1), (6, .int s.2)] [] g Q) (fun r => ps_At mX0_widen (d + 2) 166 [(0, .ref x0), (1, .int x1), (2, .int x2), (3, .int x3), (4, .int x4), (5, .int r)] [] g Q) (fun s x hb hh he => pbX0_widen_59 hb hh he) ?_) ⟨rfl, rfl, rfl, rfl, rfl, rfl, rfl, trivial⟩
    refine (?_ : ps_At mX0_widen (d + 2) 166 [(0, .ref x0), (1, .int x1), (2, .int x2), (3, .int x3), (4, .int x4), (5, .int s44)] [] g Q)
    refine sX0_widen_166 ?_
    replace h := q_be h
    obtain ⟨v45, hv, h⟩ := h
    replace hv := q_fR_e hv
    obtain ⟨_, cv45, dv45⟩ := hv
    replace h := q_be h
    obtain ⟨a46, ea46, h⟩ := h
    subst ea46
    replace h := q_be h
    obtain ⟨v47, hv, h⟩ := h
    replace hv := q_fI_e hv
    obtain ⟨_, cv47, dv47⟩ := hv
    replace h := q_be h
    obtain ⟨g48, hv, h⟩ := h
    replace hv := q_wI_e hv
    obtain ⟨_, _, cg48, pg48, ig48, yg48⟩ := hv
    refine ⟨⟨some _, rfl⟩, _, _, cv45, dv45, ⟨some _, rfl⟩, _, _, cv47, dv47, _, _, cg48, pg48, ig48, _, yg48, by decide, ?_⟩
    exact ps_weak (hh (x4 + (1 : Int32), g48) (Option.some.inj h).symm) ⟨rfl, rfl, rfl, rfl, rfl, trivial⟩
noncomputable def bX0_widen_18 (x0 : Nat) (x1 : Int32) (x2 : Int32) (x3 : Int32) (g : ps_G) : Option ((Int32 × ps_G) ⊕ (ps_G)) := Option.bind (q_fI 0 1 g x0) fun v6 => if v6 ≤ x3 then (some (.inr g)) else (Option.bind (q_lp (fun s => bX0_widen_29 x0 x1 x2 x3 s.1 s.2) ((0 : Int32), g)) fun s51 => some (.inl (x3 + (1 : Int32), s51)))
theorem pbX0_widen_18 {d : Nat} {Q : ps_Rs → ps_G → Prop}  {x0 : Nat} {x1 : Int32} {x2 : Int32} {x3 : Int32} {g : ps_G} {x : (Int32 × ps_G) ⊕ (ps_G)} (h : bX0_widen_18 x0 x1 x2 x3 g = some x) (hh : ∀ s' : Int32 × ps_G, x = .inl s' → ps_At mX0_widen (d + 2) 18 [(0, .ref x0), (1, .int x1), (2, .int x2), (3, .int s'.1)] [] s'.2 Q) (he : ∀ r' : ps_G, x = .inr r' → ps_At mX0_widen (d + 2) 194 [] [] r' Q) : ps_At mX0_widen (d + 2) 18 [(0, .ref x0), (1, .int x1), (2, .int x2), (3, .int x3)] [] g Q := by
  unfold bX0_widen_18 at h
  refine sX0_widen_18 ?_
  replace h := q_be h
  obtain ⟨v6, hv, h⟩ := h
  replace hv := q_fI_e hv
  obtain ⟨_, cv6, dv6⟩ := hv
  refine ⟨⟨some _, rfl⟩, _, _, cv6, dv6, ?_⟩
  refine And.intro (fun hc7 => ?_) (fun hc7 => ?_)
  · replace h := q_ifp (hc7) h
    exact ps_weak (he g (Option.some.inj h).symm) trivial
  · replace h := q_ifn (hc7) h
    refine ⟨by decide, ?_⟩
    replace h := q_be h
    obtain ⟨s51, hl, h⟩ := h
    refine ps_weak (q_lp_ok hl (fun s => ps_At mX0_widen (d + 2) 29 [(0, .ref x0), (1, .int x1), (2, .int x2), (3, .int x3), (4, .int s.1)] [] s.2 Q) (fun r => ps_At mX0_widen (d + 2) 188 [(0, .ref x0), (1, .int x1), (2, .int x2), (3, .int x3)] [] r Q) (fun s x hb hh he => pbX0_widen_29 hb hh he) ?_) ⟨rfl, rfl, rfl, rfl, rfl, trivial⟩
    refine (?_ : ps_At mX0_widen (d + 2) 188 [(0, .ref x0), (1, .int x1), (2, .int x2), (3, .int x3)] [] s51 Q)
    refine sX0_widen_188 ?_
    refine ⟨by decide, ?_⟩
    exact ps_weak (hh (x3 + (1 : Int32), s51) (Option.some.inj h).symm) ⟨rfl, rfl, rfl, rfl, trivial⟩
noncomputable def fX0_widen (g : ps_G) (x0 : Nat) (x1 : Int32) (x2 : Int32) : Option (ps_G) := Option.bind (q_fR 0 2 g x0) fun v1 => Option.bind (v1) fun a2 => Option.bind (q_fR 0 4 g x0) fun v3 => Option.bind (v3) fun a4 => Option.bind (q_cp g a2 (0 : Int32) a4 (0 : Int32) (576 : Int32)) fun g5 => Option.bind (q_lp (fun s => bX0_widen_18 x0 x1 x2 s.1 s.2) ((0 : Int32), g5)) fun s54 => some s54
theorem rX0_widen {d : Nat} {Q : ps_Rs → ps_G → Prop} {g : ps_G} {x0 : Nat} {x1 : Int32} {x2 : Int32} {r : ps_G} (h : fX0_widen g x0 x1 x2 = some r) (hk : Q (.inl none) r) : ps_Ok mX0_widen (d + 2) [.ref x0, .int x1, .int x2] g Q := by
  unfold fX0_widen at h
  refine sX0_widen_0 ?_
  replace h := q_be h
  obtain ⟨v1, hv, h⟩ := h
  replace hv := q_fR_e hv
  obtain ⟨_, cv1, dv1⟩ := hv
  replace h := q_be h
  obtain ⟨a2, ea2, h⟩ := h
  subst ea2
  replace h := q_be h
  obtain ⟨v3, hv, h⟩ := h
  replace hv := q_fR_e hv
  obtain ⟨_, cv3, dv3⟩ := hv
  replace h := q_be h
  obtain ⟨a4, ea4, h⟩ := h
  subst ea4
  replace h := q_be h
  obtain ⟨g5, hv, h⟩ := h
  replace hv := q_cp_e hv
  obtain ⟨_, _, _, _, ag5, bg5, cg5, dg5, eg5, fg5, ig5, jg5, kg5, yg5⟩ := hv
  refine ⟨⟨some _, rfl⟩, _, _, cv1, dv1, ⟨some _, rfl⟩, _, _, cv3, dv3, _, _, _, _, ag5, bg5, cg5, dg5, eg5, fg5, ig5, jg5, kg5, by decide, _, yg5, by decide, ?_⟩
  replace h := q_be h
  obtain ⟨s54, hl, h⟩ := h
  refine ps_weak (q_lp_ok hl (fun s => ps_At mX0_widen (d + 2) 18 [(0, .ref x0), (1, .int x1), (2, .int x2), (3, .int s.1)] [] s.2 Q) (fun r => ps_At mX0_widen (d + 2) 194 [] [] r Q) (fun s x hb hh he => pbX0_widen_18 hb hh he) ?_) ⟨rfl, rfl, rfl, rfl, trivial⟩
  refine (?_ : ps_At mX0_widen (d + 2) 194 [] [] s54 Q)
  refine sX0_widen_194 ?_
  cases h
  exact ⟨rfl, rfl, hk⟩
noncomputable def bX0_soften_72 (g : ps_G) (x0 : Nat) (x1 : Int32) (x2 : Int32) (x3 : Int32) (x4 : Int32) (x6 : Int32) (x5 : Int32) (x7 : Int32) : Option ((Int32 × Int32) ⊕ (Int32)) := if (x4 + x1) < x7 then (some (.inr x5)) else (Option.bind (q_fR 0 4 g x0) fun v13 => Option.bind (v13) fun a14 => Option.bind (q_fI 0 1 g x0) fun v15 => Option.bind (q_fI 0 0 g x0) fun v16 => Option.bind (q_fI 0 0 g x0) fun v17 => Option.bind (q_aI g a14 (((fX11_within x6 (0 : Int32) (v15 - (1 : Int32))) * v16) + (fX11_within x7 (0 : Int32) (v17 - (1 : Int32))))) fun v18 => some (.inl (x5 + v18, x7 + (1 : Int32))))
theorem pbX0_soften_72 {d : Nat} {Q : ps_Rs → ps_G → Prop} {g : ps_G} {x0 : Nat} {x1 : Int32} {x2 : Int32} {x3 : Int32} {x4 : Int32} {x6 : Int32} {x5 : Int32} {x7 : Int32} {x : (Int32 × Int32) ⊕ (Int32)} (h : bX0_soften_72 g x0 x1 x2 x3 x4 x6 x5 x7 = some x) (hh : ∀ s' : Int32 × Int32, x = .inl s' → ps_At mX0_soften (d + 2) 72 [(0, .ref x0), (1, .int x1), (2, .int x2), (3, .int x3), (4, .int x4), (5, .int s'.1), (6, .int x6), (7, .int s'.2)] [] g Q) (he : ∀ r' : Int32, x = .inr r' → ps_At mX0_soften (d + 2) 127 [(0, .ref x0), (1, .int x1), (2, .int x2), (3, .int x3), (4, .int x4), (5, .int r'), (6, .int x6)] [] g Q) : ps_At mX0_soften (d + 2) 72 [(0, .ref x0), (1, .int x1), (2, .int x2), (3, .int x3), (4, .int x4), (5, .int x5), (6, .int x6), (7, .int x7)] [] g Q := by
  unfold bX0_soften_72 at h
  refine sX0_soften_72 ?_
  refine And.intro (fun hc11 => ?_) (fun hc11 => ?_)
  · replace h := q_ifp (hc11) h
    exact ps_weak (he x5 (Option.some.inj h).symm) ⟨rfl, rfl, rfl, rfl, rfl, rfl, rfl, trivial⟩
  · replace h := q_ifn (hc11) h
    replace h := q_be h
    obtain ⟨v13, hv, h⟩ := h
    replace hv := q_fR_e hv
    obtain ⟨_, cv13, dv13⟩ := hv
    replace h := q_be h
    obtain ⟨a14, ea14, h⟩ := h
    subst ea14
    replace h := q_be h
    obtain ⟨v15, hv, h⟩ := h
    replace hv := q_fI_e hv
    obtain ⟨_, cv15, dv15⟩ := hv
    refine ⟨⟨some _, rfl⟩, _, _, cv13, dv13, ⟨some _, rfl⟩, _, _, cv15, dv15, ?_⟩
    refine rX11_within rfl ?_
    replace h := q_be h
    obtain ⟨v16, hv, h⟩ := h
    replace hv := q_fI_e hv
    obtain ⟨_, cv16, dv16⟩ := hv
    replace h := q_be h
    obtain ⟨v17, hv, h⟩ := h
    replace hv := q_fI_e hv
    obtain ⟨_, cv17, dv17⟩ := hv
    refine ⟨⟨some _, rfl⟩, _, _, cv16, dv16, ⟨some _, rfl⟩, _, _, cv17, dv17, ?_⟩
    refine rX11_within rfl ?_
    replace h := q_be h
    obtain ⟨v18, hv, h⟩ := h
    replace hv := q_aI_e hv
    obtain ⟨_, _, cv18, iv18, yv18⟩ := hv
    refine ⟨_, _, cv18, iv18, _, yv18, by decide, by decide, ?_⟩
    exact ps_weak (hh (x5 + v18, x7 + (1 : Int32)) (Option.some.inj h).symm) ⟨rfl, rfl, rfl, rfl, rfl, rfl, rfl, rfl, trivial⟩
noncomputable def bX0_soften_58 (g : ps_G) (x0 : Nat) (x1 : Int32) (x2 : Int32) (x3 : Int32) (x4 : Int32) (x5 : Int32) (x6 : Int32) : Option ((Int32 × Int32) ⊕ (Int32)) := if (x3 + x1) < x6 then (some (.inr x5)) else (Option.bind (q_lp (fun s => bX0_soften_72 g x0 x1 x2 x3 x4 x6 s.1 s.2) (x5, x4 - x1)) fun s21 => some (.inl (s21, x6 + (1 : Int32))))
theorem pbX0_soften_58 {d : Nat} {Q : ps_Rs → ps_G → Prop} {g : ps_G} {x0 : Nat} {x1 : Int32} {x2 : Int32} {x3 : Int32} {x4 : Int32} {x5 : Int32} {x6 : Int32} {x : (Int32 × Int32) ⊕ (Int32)} (h : bX0_soften_58 g x0 x1 x2 x3 x4 x5 x6 = some x) (hh : ∀ s' : Int32 × Int32, x = .inl s' → ps_At mX0_soften (d + 2) 58 [(0, .ref x0), (1, .int x1), (2, .int x2), (3, .int x3), (4, .int x4), (5, .int s'.1), (6, .int s'.2)] [] g Q) (he : ∀ r' : Int32, x = .inr r' → ps_At mX0_soften (d + 2) 133 [(0, .ref x0), (1, .int x1), (2, .int x2), (3, .int x3), (4, .int x4), (5, .int r')] [] g Q) : ps_At mX0_soften (d + 2) 58 [(0, .ref x0), (1, .int x1), (2, .int x2), (3, .int x3), (4, .int x4), (5, .int x5), (6, .int x6)] [] g Q := by
  unfold bX0_soften_58 at h
  refine sX0_soften_58 ?_
  refine And.intro (fun hc10 => ?_) (fun hc10 => ?_)
  · replace h := q_ifp (hc10) h
    exact ps_weak (he x5 (Option.some.inj h).symm) ⟨rfl, rfl, rfl, rfl, rfl, rfl, trivial⟩
  · replace h := q_ifn (hc10) h
    refine ⟨by decide, ?_⟩
    replace h := q_be h
    obtain ⟨s21, hl, h⟩ := h
    refine ps_weak (q_lp_ok hl (fun s => ps_At mX0_soften (d + 2) 72 [(0, .ref x0), (1, .int x1), (2, .int x2), (3, .int x3), (4, .int x4), (5, .int s.1), (6, .int x6), (7, .int s.2)] [] g Q) (fun r => ps_At mX0_soften (d + 2) 127 [(0, .ref x0), (1, .int x1), (2, .int x2), (3, .int x3), (4, .int x4), (5, .int r), (6, .int x6)] [] g Q) (fun s x hb hh he => pbX0_soften_72 hb hh he) ?_) ⟨rfl, rfl, rfl, rfl, rfl, rfl, rfl, rfl, trivial⟩
    refine (?_ : ps_At mX0_soften (d + 2) 127 [(0, .ref x0), (1, .int x1), (2, .int x2), (3, .int x3), (4, .int x4), (5, .int s21), (6, .int x6)] [] g Q)
    refine sX0_soften_127 ?_
    refine ⟨by decide, ?_⟩
    exact ps_weak (hh (s21, x6 + (1 : Int32)) (Option.some.inj h).symm) ⟨rfl, rfl, rfl, rfl, rfl, rfl, rfl, trivial⟩
noncomputable def jX0_soften_163_41 (g : ps_G) (x0 : Nat) (x1 : Int32) (x2 : Int32) (x3 : Int32) (x4 : Int32) (k0 : Option Nat) (k1 : Int32) (k2 : Int32) : Option ((Int32 × ps_G) ⊕ (ps_G)) := Option.bind (k0) fun a30 => Option.bind (q_wI g a30 k1 k2) fun g31 => some (.inl (x4 + (1 : Int32), g31))
theorem pjX0_soften_163_41 {d : Nat} {Q : ps_Rs → ps_G → Prop} {g : ps_G} {x0 : Nat} {x1 : Int32} {x2 : Int32} {x3 : Int32} {x4 : Int32} {k0 : Option Nat} {k1 : Int32} {k2 : Int32} {x : (Int32 × ps_G) ⊕ (ps_G)} (h : jX0_soften_163_41 g x0 x1 x2 x3 x4 k0 k1 k2 = some x) (hh : ∀ s' : Int32 × ps_G, x = .inl s' → ps_At mX0_soften (d + 2) 41 [(0, .ref x0), (1, .int x1), (2, .int x2), (3, .int x3), (4, .int s'.1)] [] s'.2 Q) (he : ∀ r' : ps_G, x = .inr r' → ps_At mX0_soften (d + 2) 170 [(0, .ref x0), (1, .int x1), (2, .int x2), (3, .int x3)] [] r' Q) : ps_At mX0_soften (d + 2) 163 [(0, .ref x0), (1, .int x1), (2, .int x2), (3, .int x3), (4, .int x4)] [.int k2, .int k1, va_rf k0] g Q := by
  unfold jX0_soften_163_41 at h
  refine sX0_soften_163 ?_
  replace h := q_be h
  obtain ⟨a30, ea30, h⟩ := h
  subst ea30
  replace h := q_be h
  obtain ⟨g31, hv, h⟩ := h
  replace hv := q_wI_e hv
  obtain ⟨_, _, cg31, pg31, ig31, yg31⟩ := hv
  refine ⟨_, _, cg31, pg31, ig31, _, yg31, by decide, ?_⟩
  exact ps_weak (hh (x4 + (1 : Int32), g31) (Option.some.inj h).symm) ⟨rfl, rfl, rfl, rfl, rfl, trivial⟩
noncomputable def bX0_soften_41 (x0 : Nat) (x1 : Int32) (x2 : Int32) (x3 : Int32) (x4 : Int32) (g : ps_G) : Option ((Int32 × ps_G) ⊕ (ps_G)) := Option.bind (q_fI 0 0 g x0) fun v8 => if v8 ≤ x4 then (some (.inr g)) else (Option.bind (q_lp (fun s => bX0_soften_58 g x0 x1 x2 x3 x4 s.1 s.2) ((0 : Int32), x3 - x1)) fun s24 => Option.bind (q_fR 0 2 g x0) fun v25 => Option.bind (v25) fun a26 => Option.bind (q_fI 0 0 g x0) fun v27 => if x2 ≤ 0 then (jX0_soften_163_41 g x0 x1 x2 x3 x4 (some a26) ((x3 * v27) + x4) s24) else (Option.bind (q_div (s24 + (x2 / (2 : Int32))) x2) fun v32 => jX0_soften_163_41 g x0 x1 x2 x3 x4 (some a26) ((x3 * v27) + x4) v32))
theorem pbX0_soften_41 {d : Nat} {Q : ps_Rs → ps_G → Prop}  {x0 : Nat} {x1 : Int32} {x2 : Int32} {x3 : Int32} {x4 : Int32} {g : ps_G} {x : (Int32 × ps_G) ⊕ (ps_G)} (h : bX0_soften_41 x0 x1 x2 x3 x4 g = some x) (hh : ∀ s' : Int32 × ps_G, x = .inl s' → ps_At mX0_soften (d + 2) 41 [(0, .ref x0), (1, .int x1), (2, .int x2), (3, .int x3), (4, .int s'.1)] [] s'.2 Q) (he : ∀ r' : ps_G, x = .inr r' → ps_At mX0_soften (d + 2) 170 [(0, .ref x0), (1, .int x1), (2, .int x2), (3, .int x3)] [] r' Q) : ps_At mX0_soften (d + 2) 41 [(0, .ref x0), (1, .int x1), (2, .int x2), (3, .int x3), (4, .int x4)] [] g Q := by
  unfold bX0_soften_41 at h
  refine sX0_soften_41 ?_
  replace h := q_be h
  obtain ⟨v8, hv, h⟩ := h
  replace hv := q_fI_e hv
  obtain ⟨_, cv8, dv8⟩ := hv
  refine ⟨⟨some _, rfl⟩, _, _, cv8, dv8, ?_⟩
  refine And.intro (fun hc9 => ?_) (fun hc9 => ?_)
  · replace h := q_ifp (hc9) h
    exact ps_weak (he g (Option.some.inj h).symm) ⟨rfl, rfl, rfl, rfl, trivial⟩
  · replace h := q_ifn (hc9) h
    refine ⟨by decide, by decide, ?_⟩
    replace h := q_be h
    obtain ⟨s24, hl, h⟩ := h
    refine ps_weak (q_lp_ok hl (fun s => ps_At mX0_soften (d + 2) 58 [(0, .ref x0), (1, .int x1), (2, .int x2), (3, .int x3), (4, .int x4), (5, .int s.1), (6, .int s.2)] [] g Q) (fun r => ps_At mX0_soften (d + 2) 133 [(0, .ref x0), (1, .int x1), (2, .int x2), (3, .int x3), (4, .int x4), (5, .int r)] [] g Q) (fun s x hb hh he => pbX0_soften_58 hb hh he) ?_) ⟨rfl, rfl, rfl, rfl, rfl, rfl, rfl, trivial⟩
    refine (?_ : ps_At mX0_soften (d + 2) 133 [(0, .ref x0), (1, .int x1), (2, .int x2), (3, .int x3), (4, .int x4), (5, .int s24)] [] g Q)
    refine sX0_soften_133 ?_
    replace h := q_be h
    obtain ⟨v25, hv, h⟩ := h
    replace hv := q_fR_e hv
    obtain ⟨_, cv25, dv25⟩ := hv
    replace h := q_be h
    obtain ⟨a26, ea26, h⟩ := h
    subst ea26
    replace h := q_be h
    obtain ⟨v27, hv, h⟩ := h
    replace hv := q_fI_e hv
    obtain ⟨_, cv27, dv27⟩ := hv
    refine ⟨⟨some _, rfl⟩, _, _, cv25, dv25, ⟨some _, rfl⟩, _, _, cv27, dv27, ?_⟩
    refine And.intro (fun hc28 => ?_) (fun hc28 => ?_)
    · replace h := q_ifp (hc28) h
      refine sX0_soften_161 ?_
      exact ps_weak (pjX0_soften_163_41 h hh he) ⟨rfl, rfl, rfl, rfl, rfl, trivial⟩
    · replace h := q_ifn (hc28) h
      replace h := q_be h
      obtain ⟨v32, hv, h⟩ := h
      replace hv := q_div_e hv
      obtain ⟨zv32, yv32⟩ := hv
      refine ⟨by decide, _, rfl, zv32, _, yv32, ?_⟩
      exact ps_weak (pjX0_soften_163_41 h hh he) ⟨rfl, rfl, rfl, rfl, rfl, trivial⟩
noncomputable def bX0_soften_30 (x0 : Nat) (x1 : Int32) (x2 : Int32) (x3 : Int32) (g : ps_G) : Option ((Int32 × ps_G) ⊕ (ps_G)) := Option.bind (q_fI 0 1 g x0) fun v6 => if v6 ≤ x3 then (some (.inr g)) else (Option.bind (q_lp (fun s => bX0_soften_41 x0 x1 x2 x3 s.1 s.2) ((0 : Int32), g)) fun s37 => some (.inl (x3 + (1 : Int32), s37)))
theorem pbX0_soften_30 {d : Nat} {Q : ps_Rs → ps_G → Prop}  {x0 : Nat} {x1 : Int32} {x2 : Int32} {x3 : Int32} {g : ps_G} {x : (Int32 × ps_G) ⊕ (ps_G)} (h : bX0_soften_30 x0 x1 x2 x3 g = some x) (hh : ∀ s' : Int32 × ps_G, x = .inl s' → ps_At mX0_soften (d + 2) 30 [(0, .ref x0), (1, .int x1), (2, .int x2), (3, .int s'.1)] [] s'.2 Q) (he : ∀ r' : ps_G, x = .inr r' → ps_At mX0_soften (d + 2) 176 [] [] r' Q) : ps_At mX0_soften (d + 2) 30 [(0, .ref x0), (1, .int x1), (2, .int x2), (3, .int x3)] [] g Q := by
  unfold bX0_soften_30 at h
  refine sX0_soften_30 ?_
  replace h := q_be h
  obtain ⟨v6, hv, h⟩ := h
  replace hv := q_fI_e hv
  obtain ⟨_, cv6, dv6⟩ := hv
  refine ⟨⟨some _, rfl⟩, _, _, cv6, dv6, ?_⟩
  refine And.intro (fun hc7 => ?_) (fun hc7 => ?_)
  · replace h := q_ifp (hc7) h
    exact ps_weak (he g (Option.some.inj h).symm) trivial
  · replace h := q_ifn (hc7) h
    refine ⟨by decide, ?_⟩
    replace h := q_be h
    obtain ⟨s37, hl, h⟩ := h
    refine ps_weak (q_lp_ok hl (fun s => ps_At mX0_soften (d + 2) 41 [(0, .ref x0), (1, .int x1), (2, .int x2), (3, .int x3), (4, .int s.1)] [] s.2 Q) (fun r => ps_At mX0_soften (d + 2) 170 [(0, .ref x0), (1, .int x1), (2, .int x2), (3, .int x3)] [] r Q) (fun s x hb hh he => pbX0_soften_41 hb hh he) ?_) ⟨rfl, rfl, rfl, rfl, rfl, trivial⟩
    refine (?_ : ps_At mX0_soften (d + 2) 170 [(0, .ref x0), (1, .int x1), (2, .int x2), (3, .int x3)] [] s37 Q)
    refine sX0_soften_170 ?_
    refine ⟨by decide, ?_⟩
    exact ps_weak (hh (x3 + (1 : Int32), s37) (Option.some.inj h).symm) ⟨rfl, rfl, rfl, rfl, trivial⟩
noncomputable def fX0_soften (g : ps_G) (x0 : Nat) (x1 : Int32) : Option (ps_G) := Option.bind (q_fR 0 2 g x0) fun v1 => Option.bind (v1) fun a2 => Option.bind (q_fR 0 4 g x0) fun v3 => Option.bind (v3) fun a4 => Option.bind (q_cp g a2 (0 : Int32) a4 (0 : Int32) (576 : Int32)) fun g5 => Option.bind (q_lp (fun s => bX0_soften_30 x0 x1 ((((2 : Int32) * x1) + (1 : Int32)) * (((2 : Int32) * x1) + (1 : Int32))) s.1 s.2) ((0 : Int32), g5)) fun s40 => some s40
theorem rX0_soften {d : Nat} {Q : ps_Rs → ps_G → Prop} {g : ps_G} {x0 : Nat} {x1 : Int32} {r : ps_G} (h : fX0_soften g x0 x1 = some r) (hk : Q (.inl none) r) : ps_Ok mX0_soften (d + 2) [.ref x0, .int x1] g Q := by
  unfold fX0_soften at h
  refine sX0_soften_0 ?_
  replace h := q_be h
  obtain ⟨v1, hv, h⟩ := h
  replace hv := q_fR_e hv
  obtain ⟨_, cv1, dv1⟩ := hv
  replace h := q_be h
  obtain ⟨a2, ea2, h⟩ := h
  subst ea2
  replace h := q_be h
  obtain ⟨v3, hv, h⟩ := h
  replace hv := q_fR_e hv
  obtain ⟨_, cv3, dv3⟩ := hv
  replace h := q_be h
  obtain ⟨a4, ea4, h⟩ := h
  subst ea4
  replace h := q_be h
  obtain ⟨g5, hv, h⟩ := h
  replace hv := q_cp_e hv
  obtain ⟨_, _, _, _, ag5, bg5, cg5, dg5, eg5, fg5, ig5, jg5, kg5, yg5⟩ := hv
  refine ⟨by decide, ⟨some _, rfl⟩, _, _, cv1, dv1, ⟨some _, rfl⟩, _, _, cv3, dv3, _, _, _, _, ag5, bg5, cg5, dg5, eg5, fg5, ig5, jg5, kg5, by decide, _, yg5, by decide, ?_⟩
  replace h := q_be h
  obtain ⟨s40, hl, h⟩ := h
  refine ps_weak (q_lp_ok hl (fun s => ps_At mX0_soften (d + 2) 30 [(0, .ref x0), (1, .int x1), (2, .int ((((2 : Int32) * x1) + (1 : Int32)) * (((2 : Int32) * x1) + (1 : Int32)))), (3, .int s.1)] [] s.2 Q) (fun r => ps_At mX0_soften (d + 2) 176 [] [] r Q) (fun s x hb hh he => pbX0_soften_30 hb hh he) ?_) ⟨rfl, rfl, rfl, rfl, trivial⟩
  refine (?_ : ps_At mX0_soften (d + 2) 176 [] [] s40 Q)
  refine sX0_soften_176 ?_
  cases h
  exact ⟨rfl, rfl, hk⟩
noncomputable def jX11_reselect_106 (g : ps_G) (x0 : Nat) : Option ((String ⊕ Int32) × ps_G) := Option.bind (q_fR 11 7 g x0) fun v16 => Option.bind (v16) fun a17 => Option.bind (q_ob 0 g a17) fun u18 => Option.bind (fX0_above g a17) fun v19 => some (.inr v19, g)
theorem pjX11_reselect_106 {d : Nat} {Q : ps_Rs → ps_G → Prop} {g : ps_G} {x0 : Nat} {r : (String ⊕ Int32) × ps_G} (h : jX11_reselect_106 g x0 = some r) (hk : Q (q_rI r.1) r.2) : ps_At mX11_reselect (d + 7) 106 [(0, .ref x0)] [] g Q := by
  unfold jX11_reselect_106 at h
  refine sX11_reselect_106 ?_
  replace h := q_be h
  obtain ⟨v16, hv, h⟩ := h
  replace hv := q_fR_e hv
  obtain ⟨_, cv16, dv16⟩ := hv
  replace h := q_be h
  obtain ⟨a17, ea17, h⟩ := h
  subst ea17
  replace h := q_be h
  obtain ⟨u18, hv, h⟩ := h
  replace hv := q_ob_e hv
  obtain ⟨_, cu18⟩ := hv
  replace h := q_be h
  obtain ⟨v19, hv, h⟩ := h
  refine ⟨⟨some _, rfl⟩, _, _, cv16, dv16, ⟨_, cu18⟩, ?_⟩
  refine rX0_above hv ?_
  cases h
  exact ⟨rfl, hk⟩
noncomputable def fX11_reselect (g : ps_G) (x0 : Nat) (x1 : Int32) (x2 : Int32) : Option ((String ⊕ Int32) × ps_G) := q_tc (fX11_range g x1 (0 : Int32) (3 : Int32)) fun v1 g2 => q_tc (fX11_range g2 x2 (if ¬ x1 = 0 then (1 : Int32) else (0 : Int32)) (if ¬ x1 = 0 then (8 : Int32) else (0 : Int32))) fun v9 g10 => if x1 = 0 then (Option.bind (q_fR 11 7 g10 x0) fun v12 => Option.bind (v12) fun a13 => Option.bind (q_ob 0 g10 a13) fun u14 => Option.bind (fX0_turnOver g10 a13) fun v15 => jX11_reselect_106 v15 x0) else (if x1 = 1 then (Option.bind (q_fR 11 7 g10 x0) fun v21 => Option.bind (v21) fun a22 => Option.bind (q_ob 0 g10 a22) fun u23 => Option.bind (fX0_widen g10 a22 x2 (1 : Int32)) fun v24 => jX11_reselect_106 v24 x0) else (if x1 = 2 then (Option.bind (q_fR 11 7 g10 x0) fun v26 => Option.bind (v26) fun a27 => Option.bind (q_ob 0 g10 a27) fun u28 => Option.bind (fX0_widen g10 a27 x2 (0 : Int32)) fun v29 => jX11_reselect_106 v29 x0) else (Option.bind (q_fR 11 7 g10 x0) fun v30 => Option.bind (v30) fun a31 => Option.bind (q_ob 0 g10 a31) fun u32 => Option.bind (fX0_soften g10 a31 x2) fun v33 => Option.bind (q_fR 11 7 v33 x0) fun v34 => Option.bind (v34) fun a35 => Option.bind (q_ob 0 v33 a35) fun u36 => Option.bind (fX0_soften v33 a35 x2) fun v37 => jX11_reselect_106 v37 x0)))
theorem rX11_reselect {d : Nat} {Q : ps_Rs → ps_G → Prop} {g : ps_G} {x0 : Nat} {x1 : Int32} {x2 : Int32} {r : (String ⊕ Int32) × ps_G} (h : fX11_reselect g x0 x1 x2 = some r) (hk : Q (q_rI r.1) r.2) : ps_Ok mX11_reselect (d + 7) [.ref x0, .int x1, .int x2] g Q := by
  unfold fX11_reselect at h
  refine sX11_reselect_0 ?_
  replace h := q_tc_e h
  rcases h with ⟨E, g2, hv, rfl⟩ | ⟨v1, g2, hv, h⟩
  · exact rX11_range hv ⟨rfl, hk⟩
  refine rX11_range hv ?_
  have kJ5 : ∀ w4 : Int32, w4 = (if ¬ x1 = 0 then (1 : Int32) else (0 : Int32)) → ps_At mX11_reselect (d + 7) 16 [(0, .ref x0), (1, .int x1), (2, .int x2)] [.int w4, .int x2] g2 Q := by
    rintro _ rfl
    refine sX11_reselect_16 ?_
    have kJ8 : ∀ w7 : Int32, w7 = (if ¬ x1 = 0 then (8 : Int32) else (0 : Int32)) → ps_At mX11_reselect (d + 7) 26 [(0, .ref x0), (1, .int x1), (2, .int x2)] [.int w7, .int (if ¬ x1 = 0 then (1 : Int32) else (0 : Int32)), .int x2] g2 Q := by
      rintro _ rfl
      refine sX11_reselect_26 ?_
      replace h := q_tc_e h
      rcases h with ⟨E, g10, hv, rfl⟩ | ⟨v9, g10, hv, h⟩
      · exact rX11_range hv ⟨rfl, hk⟩
      refine rX11_range hv ?_
      refine sX11_reselect_30 ?_
      by_cases hc11 : x1 = 0
      · replace h := q_ifp hc11 h
        have eT : ps_tsel 30 60 0 2 #[26, 36, 48] x1 = 56 := by
          rw [hc11]; decide +kernel
        refine ps_at_eq eT ?_
        refine sX11_reselect_56 ?_
        replace h := q_be h
        obtain ⟨v12, hv, h⟩ := h
        replace hv := q_fR_e hv
        obtain ⟨_, cv12, dv12⟩ := hv
        replace h := q_be h
        obtain ⟨a13, ea13, h⟩ := h
        subst ea13
        replace h := q_be h
        obtain ⟨u14, hv, h⟩ := h
        replace hv := q_ob_e hv
        obtain ⟨_, cu14⟩ := hv
        replace h := q_be h
        obtain ⟨v15, hv, h⟩ := h
        refine ⟨⟨some _, rfl⟩, _, _, cv12, dv12, ⟨_, cu14⟩, ?_⟩
        refine rX0_turnOver hv ?_
        exact ps_weak (pjX11_reselect_106 h hk) ⟨rfl, trivial⟩
      replace h := q_ifn hc11 h
      by_cases hc20 : x1 = 1
      · replace h := q_ifp hc20 h
        have eT : ps_tsel 30 60 0 2 #[26, 36, 48] x1 = 66 := by
          rw [hc20]; decide +kernel
        refine ps_at_eq eT ?_
        refine sX11_reselect_66 ?_
        replace h := q_be h
        obtain ⟨v21, hv, h⟩ := h
        replace hv := q_fR_e hv
        obtain ⟨_, cv21, dv21⟩ := hv
        replace h := q_be h
        obtain ⟨a22, ea22, h⟩ := h
        subst ea22
        replace h := q_be h
        obtain ⟨u23, hv, h⟩ := h
        replace hv := q_ob_e hv
        obtain ⟨_, cu23⟩ := hv
        replace h := q_be h
        obtain ⟨v24, hv, h⟩ := h
        refine ⟨⟨some _, rfl⟩, _, _, cv21, dv21, ⟨_, cu23⟩, ?_⟩
        refine rX0_widen hv ?_
        exact ps_weak (pjX11_reselect_106 h hk) ⟨rfl, trivial⟩
      replace h := q_ifn hc20 h
      by_cases hc25 : x1 = 2
      · replace h := q_ifp hc25 h
        have eT : ps_tsel 30 60 0 2 #[26, 36, 48] x1 = 78 := by
          rw [hc25]; decide +kernel
        refine ps_at_eq eT ?_
        refine sX11_reselect_78 ?_
        replace h := q_be h
        obtain ⟨v26, hv, h⟩ := h
        replace hv := q_fR_e hv
        obtain ⟨_, cv26, dv26⟩ := hv
        replace h := q_be h
        obtain ⟨a27, ea27, h⟩ := h
        subst ea27
        replace h := q_be h
        obtain ⟨u28, hv, h⟩ := h
        replace hv := q_ob_e hv
        obtain ⟨_, cu28⟩ := hv
        replace h := q_be h
        obtain ⟨v29, hv, h⟩ := h
        refine ⟨⟨some _, rfl⟩, _, _, cv26, dv26, ⟨_, cu28⟩, ?_⟩
        refine rX0_widen hv ?_
        exact ps_weak (pjX11_reselect_106 h hk) ⟨rfl, trivial⟩
      replace h := q_ifn hc25 h
      have eD : ps_tsel 30 60 0 2 #[26, 36, 48] x1 = 90 := by
        refine q_tsd (by decide +kernel) (fun z h1 h2 => ?_)
        have hz : z = 0 ∨ z = 1 ∨ z = 2 := by omega
        rcases hz with rfl | rfl | rfl
        · exact Or.inl (q_tsx (v := 0) (fun z => hc11 z))
        · exact Or.inl (q_tsx (v := 1) (fun z => hc20 z))
        · exact Or.inl (q_tsx (v := 2) (fun z => hc25 z))
      refine ps_at_eq eD ?_
      refine sX11_reselect_90 ?_
      replace h := q_be h
      obtain ⟨v30, hv, h⟩ := h
      replace hv := q_fR_e hv
      obtain ⟨_, cv30, dv30⟩ := hv
      replace h := q_be h
      obtain ⟨a31, ea31, h⟩ := h
      subst ea31
      replace h := q_be h
      obtain ⟨u32, hv, h⟩ := h
      replace hv := q_ob_e hv
      obtain ⟨_, cu32⟩ := hv
      replace h := q_be h
      obtain ⟨v33, hv, h⟩ := h
      refine ⟨⟨some _, rfl⟩, _, _, cv30, dv30, ⟨_, cu32⟩, ?_⟩
      refine rX0_soften hv ?_
      replace h := q_be h
      obtain ⟨v34, hv, h⟩ := h
      replace hv := q_fR_e hv
      obtain ⟨_, cv34, dv34⟩ := hv
      replace h := q_be h
      obtain ⟨a35, ea35, h⟩ := h
      subst ea35
      replace h := q_be h
      obtain ⟨u36, hv, h⟩ := h
      replace hv := q_ob_e hv
      obtain ⟨_, cu36⟩ := hv
      replace h := q_be h
      obtain ⟨v37, hv, h⟩ := h
      refine ⟨⟨some _, rfl⟩, _, _, cv34, dv34, ⟨_, cu36⟩, ?_⟩
      refine rX0_soften hv ?_
      exact ps_weak (pjX11_reselect_106 h hk) ⟨rfl, trivial⟩
    refine And.intro (fun hc6 => ?_) (fun hc6 => ?_)
    · refine sX11_reselect_24 ?_
      exact ps_weak (kJ8 _ (if_pos (hc6)).symm) ⟨rfl, rfl, rfl, trivial⟩
    · exact ps_weak (kJ8 _ (if_neg (hc6)).symm) ⟨rfl, rfl, rfl, trivial⟩
  refine And.intro (fun hc3 => ?_) (fun hc3 => ?_)
  · refine sX11_reselect_15 ?_
    exact ps_weak (kJ5 _ (if_pos (hc3)).symm) ⟨rfl, rfl, rfl, trivial⟩
  · exact ps_weak (kJ5 _ (if_neg (hc3)).symm) ⟨rfl, rfl, rfl, trivial⟩
noncomputable def fX11_needPlace (g : ps_G) (x0 : Nat) (x1 : Int32) (x2 : Int32) : Option ((String ⊕ Unit) × ps_G) := if (x1 < 0) ∨ (x2 < 0) then (some (.inl "java/util/NoSuchElementException", ps_nw g 6 ps_e0)) else (Option.bind (q_fR 11 0 g x0) fun v3 => Option.bind (v3) fun a4 => Option.bind (q_fI 9 0 g a4) fun v5 => if v5 ≤ x1 then (some (.inl "java/util/NoSuchElementException", ps_nw g 6 ps_e0)) else (Option.bind (q_fR 11 0 g x0) fun v7 => Option.bind (v7) fun a8 => Option.bind (q_fI 9 1 g a8) fun v9 => if x2 < v9 then (some (.inr (), g)) else (some (.inl "java/util/NoSuchElementException", ps_nw g 6 ps_e0))))
theorem rX11_needPlace {d : Nat} {Q : ps_Rs → ps_G → Prop} {g : ps_G} {x0 : Nat} {x1 : Int32} {x2 : Int32} {r : (String ⊕ Unit) × ps_G} (h : fX11_needPlace g x0 x1 x2 = some r) (hk : Q (q_rV r.1) r.2) : ps_Ok mX11_needPlace (d + 6) [.ref x0, .int x1, .int x2] g Q := by
  unfold fX11_needPlace at h
  refine sX11_needPlace_0 ?_
  have kT15 : (some (.inl "java/util/NoSuchElementException", ps_nw g 6 ps_e0)) = some r → ps_At mX11_needPlace (d + 6) 30 [] [] g Q := fun h => by
    cases h
    exact sX11_needPlace_30 (by decide) hk
  refine And.intro (fun hc1 => ?_) (fun hc1 => ?_)
  · exact ps_weak (kT15 (q_ifp (Or.inl hc1) h)) trivial
  · refine And.intro (fun hc2 => ?_) (fun hc2 => ?_)
    · exact ps_weak (kT15 (q_ifp (Or.inr (hc2)) h)) trivial
    · replace h := q_ifn (not_or.mpr ⟨hc1, hc2⟩) h
      replace h := q_be h
      obtain ⟨v3, hv, h⟩ := h
      replace hv := q_fR_e hv
      obtain ⟨_, cv3, dv3⟩ := hv
      replace h := q_be h
      obtain ⟨a4, ea4, h⟩ := h
      subst ea4
      replace h := q_be h
      obtain ⟨v5, hv, h⟩ := h
      replace hv := q_fI_e hv
      obtain ⟨_, cv5, dv5⟩ := hv
      refine ⟨⟨some _, rfl⟩, _, _, cv3, dv3, _, _, cv5, dv5, ?_⟩
      refine And.intro (fun hc6 => ?_) (fun hc6 => ?_)
      · replace h := q_ifp (hc6) h
        cases h
        exact sX11_needPlace_30 (by decide) hk
      · replace h := q_ifn (hc6) h
        replace h := q_be h
        obtain ⟨v7, hv, h⟩ := h
        replace hv := q_fR_e hv
        obtain ⟨_, cv7, dv7⟩ := hv
        replace h := q_be h
        obtain ⟨a8, ea8, h⟩ := h
        subst ea8
        replace h := q_be h
        obtain ⟨v9, hv, h⟩ := h
        replace hv := q_fI_e hv
        obtain ⟨_, cv9, dv9⟩ := hv
        refine ⟨⟨some _, rfl⟩, _, _, cv7, dv7, _, _, cv9, dv9, ?_⟩
        refine And.intro (fun hc10 => ?_) (fun hc10 => ?_)
        · replace h := q_ifp (hc10) h
          refine sX11_needPlace_40 ?_
          cases h
          exact ⟨rfl, rfl, hk⟩
        · replace h := q_ifn (hc10) h
          cases h
          exact sX11_needPlace_30 (by decide) hk
noncomputable def fX11_selected (g : ps_G) (x0 : Nat) (x1 : Int32) (x2 : Int32) : Option ((String ⊕ Int32) × ps_G) := Option.bind (q_ob 11 g x0) fun u1 => q_tc (fX11_needPlace g x0 x1 x2) fun v2 g3 => Option.bind (q_fR 11 7 g3 x0) fun v4 => Option.bind (v4) fun a5 => Option.bind (q_ob 0 g3 a5) fun u6 => Option.bind (fX0_at g3 a5 x1 x2) fun v7 => some (.inr v7, g3)
theorem rX11_selected {d : Nat} {Q : ps_Rs → ps_G → Prop} {g : ps_G} {x0 : Nat} {x1 : Int32} {x2 : Int32} {r : (String ⊕ Int32) × ps_G} (h : fX11_selected g x0 x1 x2 = some r) (hk : Q (q_rI r.1) r.2) : ps_Ok mX11_selected (d + 7) [.ref x0, .int x1, .int x2] g Q := by
  unfold fX11_selected at h
  refine sX11_selected_0 ?_
  replace h := q_be h
  obtain ⟨u1, hv, h⟩ := h
  replace hv := q_ob_e hv
  obtain ⟨_, cu1⟩ := hv
  refine ⟨⟨some _, rfl⟩, ⟨_, cu1⟩, ?_⟩
  replace h := q_tc_e h
  rcases h with ⟨E, g3, hv, rfl⟩ | ⟨v2, g3, hv, h⟩
  · exact rX11_needPlace hv hk
  refine rX11_needPlace hv ?_
  replace h := q_be h
  obtain ⟨v4, hv, h⟩ := h
  replace hv := q_fR_e hv
  obtain ⟨_, cv4, dv4⟩ := hv
  replace h := q_be h
  obtain ⟨a5, ea5, h⟩ := h
  subst ea5
  replace h := q_be h
  obtain ⟨u6, hv, h⟩ := h
  replace hv := q_ob_e hv
  obtain ⟨_, cu6⟩ := hv
  replace h := q_be h
  obtain ⟨v7, hv, h⟩ := h
  refine ⟨⟨some _, rfl⟩, _, _, cv4, dv4, ⟨_, cu6⟩, ?_⟩
  refine rX0_at hv ?_
  cases h
  exact ⟨rfl, hk⟩
noncomputable def jX11_brush_31 (g : ps_G) (x0 : Nat) (x1 : Int32) (x2 : Int32) (x3 : Int32) (x4 : Int32) (x5 : Int32) : Option ((String ⊕ Unit) × ps_G) := q_tc (fX11_range g x5 (0 : Int32) (255 : Int32)) fun v9 g10 => Option.bind (q_fR 11 8 g10 x0) fun v11 => Option.bind (v11) fun a12 => Option.bind (q_sI 1 1 g10 a12 x1) fun g13 => Option.bind (q_fR 11 8 g13 x0) fun v14 => Option.bind (v14) fun a15 => Option.bind (q_sI 1 2 g13 a15 x2) fun g16 => Option.bind (q_fR 11 8 g16 x0) fun v17 => Option.bind (v17) fun a18 => Option.bind (q_sI 1 3 g16 a18 x3) fun g19 => Option.bind (q_fR 11 8 g19 x0) fun v20 => Option.bind (v20) fun a21 => Option.bind (q_sI 1 4 g19 a21 x4) fun g22 => Option.bind (q_fR 11 8 g22 x0) fun v23 => Option.bind (v23) fun a24 => Option.bind (q_sI 1 5 g22 a24 x5) fun g25 => some (.inr (), g25)
theorem pjX11_brush_31 {d : Nat} {Q : ps_Rs → ps_G → Prop} {g : ps_G} {x0 : Nat} {x1 : Int32} {x2 : Int32} {x3 : Int32} {x4 : Int32} {x5 : Int32} {r : (String ⊕ Unit) × ps_G} (h : jX11_brush_31 g x0 x1 x2 x3 x4 x5 = some r) (hk : Q (q_rV r.1) r.2) : ps_At mX11_brush (d + 7) 31 [(0, .ref x0), (1, .int x1), (2, .int x2), (3, .int x3), (4, .int x4), (5, .int x5)] [] g Q := by
  unfold jX11_brush_31 at h
  refine sX11_brush_31 ?_
  replace h := q_tc_e h
  rcases h with ⟨E, g10, hv, rfl⟩ | ⟨v9, g10, hv, h⟩
  · exact rX11_range hv ⟨rfl, hk⟩
  refine rX11_range hv ?_
  replace h := q_be h
  obtain ⟨v11, hv, h⟩ := h
  replace hv := q_fR_e hv
  obtain ⟨_, cv11, dv11⟩ := hv
  replace h := q_be h
  obtain ⟨a12, ea12, h⟩ := h
  subst ea12
  replace h := q_be h
  obtain ⟨g13, hv, h⟩ := h
  replace hv := q_sI_e hv
  obtain ⟨_, cg13, dg13, yg13⟩ := hv
  replace h := q_be h
  obtain ⟨v14, hv, h⟩ := h
  replace hv := q_fR_e hv
  obtain ⟨_, cv14, dv14⟩ := hv
  replace h := q_be h
  obtain ⟨a15, ea15, h⟩ := h
  subst ea15
  replace h := q_be h
  obtain ⟨g16, hv, h⟩ := h
  replace hv := q_sI_e hv
  obtain ⟨_, cg16, dg16, yg16⟩ := hv
  replace h := q_be h
  obtain ⟨v17, hv, h⟩ := h
  replace hv := q_fR_e hv
  obtain ⟨_, cv17, dv17⟩ := hv
  replace h := q_be h
  obtain ⟨a18, ea18, h⟩ := h
  subst ea18
  replace h := q_be h
  obtain ⟨g19, hv, h⟩ := h
  replace hv := q_sI_e hv
  obtain ⟨_, cg19, dg19, yg19⟩ := hv
  replace h := q_be h
  obtain ⟨v20, hv, h⟩ := h
  replace hv := q_fR_e hv
  obtain ⟨_, cv20, dv20⟩ := hv
  replace h := q_be h
  obtain ⟨a21, ea21, h⟩ := h
  subst ea21
  refine ⟨⟨some _, rfl⟩, _, _, cv11, dv11, _, cg13, dg13, rfl, rfl, _, yg13, ⟨some _, rfl⟩, _, _, cv14, dv14, _, cg16, dg16, rfl, rfl, _, yg16, ⟨some _, rfl⟩, _, _, cv17, dv17, _, cg19, dg19, rfl, rfl, _, yg19, ⟨some _, rfl⟩, _, _, cv20, dv20, ?_⟩
  replace h := q_be h
  obtain ⟨g22, hv, h⟩ := h
  replace hv := q_sI_e hv
  obtain ⟨_, cg22, dg22, yg22⟩ := hv
  replace h := q_be h
  obtain ⟨v23, hv, h⟩ := h
  replace hv := q_fR_e hv
  obtain ⟨_, cv23, dv23⟩ := hv
  replace h := q_be h
  obtain ⟨a24, ea24, h⟩ := h
  subst ea24
  replace h := q_be h
  obtain ⟨g25, hv, h⟩ := h
  replace hv := q_sI_e hv
  obtain ⟨_, cg25, dg25, yg25⟩ := hv
  cases h
  exact ⟨_, cg22, dg22, rfl, rfl, _, yg22, ⟨some _, rfl⟩, _, _, cv23, dv23, _, cg25, dg25, rfl, rfl, _, yg25, rfl, rfl, hk⟩
noncomputable def fX11_brush (g : ps_G) (x0 : Nat) (x1 : Int32) (x2 : Int32) (x3 : Int32) (x4 : Int32) (x5 : Int32) : Option ((String ⊕ Unit) × ps_G) := q_tc (fX11_range g x1 (1 : Int32) (64 : Int32)) fun v1 g2 => q_tc (fX11_range g2 x2 (0 : Int32) (255 : Int32)) fun v3 g4 => q_tc (fX11_range g4 x3 (2 : Int32) (64 : Int32)) fun v5 g6 => q_tc (fX11_range g6 x4 (0 : Int32) (255 : Int32)) fun v7 g8 => jX11_brush_31 g8 x0 x1 x2 x3 x4 x5
theorem rX11_brush {d : Nat} {Q : ps_Rs → ps_G → Prop} {g : ps_G} {x0 : Nat} {x1 : Int32} {x2 : Int32} {x3 : Int32} {x4 : Int32} {x5 : Int32} {r : (String ⊕ Unit) × ps_G} (h : fX11_brush g x0 x1 x2 x3 x4 x5 = some r) (hk : Q (q_rV r.1) r.2) : ps_Ok mX11_brush (d + 7) [.ref x0, .int x1, .int x2, .int x3, .int x4, .int x5] g Q := by
  unfold fX11_brush at h
  refine sX11_brush_0 ?_
  replace h := q_tc_e h
  rcases h with ⟨E, g2, hv, rfl⟩ | ⟨v1, g2, hv, h⟩
  · exact rX11_range hv ⟨rfl, hk⟩
  refine rX11_range hv ?_
  replace h := q_tc_e h
  rcases h with ⟨E, g4, hv, rfl⟩ | ⟨v3, g4, hv, h⟩
  · exact rX11_range hv ⟨rfl, hk⟩
  refine rX11_range hv ?_
  replace h := q_tc_e h
  rcases h with ⟨E, g6, hv, rfl⟩ | ⟨v5, g6, hv, h⟩
  · exact rX11_range hv ⟨rfl, hk⟩
  refine rX11_range hv ?_
  replace h := q_tc_e h
  rcases h with ⟨E, g8, hv, rfl⟩ | ⟨v7, g8, hv, h⟩
  · exact rX11_range hv ⟨rfl, hk⟩
  refine rX11_range hv ?_
  exact ps_weak (pjX11_brush_31 h hk) ⟨rfl, rfl, rfl, rfl, rfl, rfl, trivial⟩
