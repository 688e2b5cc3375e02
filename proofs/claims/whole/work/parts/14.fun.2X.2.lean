noncomputable def fX4_init_ (g : ps_G) (x0 : Nat) (x1 : Nat) : Option (ps_G) := Option.bind (q_sI 4 3 g x0 (255 : Int32)) fun g1 => Option.bind (q_sB 4 5 g1 x0 (1 : Int32)) fun g2 => Option.bind (q_sR 4 16 g2 x0 (some 0)) fun g3 => Option.bind (q_fI 4 0 g3 x1) fun v4 => Option.bind (q_sI 4 0 g3 x0 v4) fun g5 => Option.bind (q_fI 4 1 g5 x1) fun v6 => Option.bind (q_sI 4 1 g5 x0 v6) fun g7 => Option.bind (q_fI 4 2 g7 x1) fun v8 => Option.bind (q_sI 4 2 g7 x0 v8) fun g9 => Option.bind (q_fI 4 3 g9 x1) fun v10 => Option.bind (q_sI 4 3 g9 x0 v10) fun g11 => Option.bind (q_fI 4 4 g11 x1) fun v12 => Option.bind (q_sI 4 4 g11 x0 v12) fun g13 => Option.bind (q_fI 4 5 g13 x1) fun v14 => Option.bind (q_sB 4 5 g13 x0 v14) fun g15 => Option.bind (q_fI 4 6 g15 x1) fun v16 => Option.bind (q_sB 4 6 g15 x0 v16) fun g17 => Option.bind (q_fI 4 7 g17 x1) fun v18 => Option.bind (q_sI 4 7 g17 x0 v18) fun g19 => Option.bind (q_fI 4 8 g19 x1) fun v20 => Option.bind (q_sI 4 8 g19 x0 v20) fun g21 => Option.bind (q_fI 4 9 g21 x1) fun v22 => Option.bind (q_sI 4 9 g21 x0 v22) fun g23 => Option.bind (q_fI 4 10 g23 x1) fun v24 => Option.bind (q_sI 4 10 g23 x0 v24) fun g25 => Option.bind (q_fI 4 11 g25 x1) fun v26 => Option.bind (q_sI 4 11 g25 x0 v26) fun g27 => Option.bind (q_fI 4 12 g27 x1) fun v28 => Option.bind (q_sI 4 12 g27 x0 v28) fun g29 => Option.bind (q_fI 4 13 g29 x1) fun v30 => Option.bind (q_sI 4 13 g29 x0 v30) fun g31 => Option.bind (q_fI 4 14 g31 x1) fun v32 => Option.bind (q_sI 4 14 g31 x0 v32) fun g33 => Option.bind (q_fR 4 15 g33 x1) fun v34 => Option.bind (q_sR 4 15 g33 x0 v34) fun g35 => Option.bind (q_fR 4 16 g35 x1) fun v36 => Option.bind (q_sR 4 16 g35 x0 v36) fun g37 => some g37
theorem rX4_init_ {d : Nat} {Q : ps_Rs → ps_G → Prop} {g : ps_G} {x0 : Nat} {x1 : Nat} {r : ps_G} (h : fX4_init_ g x0 x1 = some r) (hk : Q (.inl none) r) : ps_Ok mX4_init_ (d + 1) [.ref x0, .ref x1] g Q := by
  unfold fX4_init_ at h
  refine sX4_init__0 ?_
  replace h := q_be h
  obtain ⟨g1, hv, h⟩ := h
  replace hv := q_sI_e hv
  obtain ⟨_, cg1, dg1, yg1⟩ := hv
  replace h := q_be h
  obtain ⟨g2, hv, h⟩ := h
  replace hv := q_sB_e hv
  obtain ⟨_, cg2, dg2, ng2, yg2⟩ := hv
  replace h := q_be h
  obtain ⟨g3, hv, h⟩ := h
  replace hv := q_sR_e hv
  obtain ⟨_, cg3, dg3, yg3⟩ := hv
  replace h := q_be h
  obtain ⟨v4, hv, h⟩ := h
  replace hv := q_fI_e hv
  obtain ⟨_, cv4, dv4⟩ := hv
  replace h := q_be h
  obtain ⟨g5, hv, h⟩ := h
  replace hv := q_sI_e hv
  obtain ⟨_, cg5, dg5, yg5⟩ := hv
  refine ⟨⟨some _, rfl⟩, by decide, ⟨some _, rfl⟩, _, cg1, dg1, rfl, rfl, _, yg1, ⟨some _, rfl⟩, _, cg2, dg2, ng2.1, ng2.2, _, yg2, ⟨some _, rfl⟩, _, cg3, dg3, rfl, rfl, _, yg3, ⟨some _, rfl⟩, ⟨some _, rfl⟩, _, _, cv4, dv4, _, cg5, dg5, rfl, rfl, _, yg5, ⟨some _, rfl⟩, ⟨some _, rfl⟩, ?_⟩
  replace h := q_be h
  obtain ⟨v6, hv, h⟩ := h
  replace hv := q_fI_e hv
  obtain ⟨_, cv6, dv6⟩ := hv
  replace h := q_be h
  obtain ⟨g7, hv, h⟩ := h
  replace hv := q_sI_e hv
  obtain ⟨_, cg7, dg7, yg7⟩ := hv
  replace h := q_be h
  obtain ⟨v8, hv, h⟩ := h
  replace hv := q_fI_e hv
  obtain ⟨_, cv8, dv8⟩ := hv
  replace h := q_be h
  obtain ⟨g9, hv, h⟩ := h
  replace hv := q_sI_e hv
  obtain ⟨_, cg9, dg9, yg9⟩ := hv
  replace h := q_be h
  obtain ⟨v10, hv, h⟩ := h
  replace hv := q_fI_e hv
  obtain ⟨_, cv10, dv10⟩ := hv
  replace h := q_be h
  obtain ⟨g11, hv, h⟩ := h
  replace hv := q_sI_e hv
  obtain ⟨_, cg11, dg11, yg11⟩ := hv
  replace h := q_be h
  obtain ⟨v12, hv, h⟩ := h
  replace hv := q_fI_e hv
  obtain ⟨_, cv12, dv12⟩ := hv
  refine ⟨_, _, cv6, dv6, _, cg7, dg7, rfl, rfl, _, yg7, ⟨some _, rfl⟩, ⟨some _, rfl⟩, _, _, cv8, dv8, _, cg9, dg9, rfl, rfl, _, yg9, ⟨some _, rfl⟩, ⟨some _, rfl⟩, _, _, cv10, dv10, _, cg11, dg11, rfl, rfl, _, yg11, ⟨some _, rfl⟩, ⟨some _, rfl⟩, _, _, cv12, dv12, ?_⟩
  replace h := q_be h
  obtain ⟨g13, hv, h⟩ := h
  replace hv := q_sI_e hv
  obtain ⟨_, cg13, dg13, yg13⟩ := hv
  replace h := q_be h
  obtain ⟨v14, hv, h⟩ := h
  replace hv := q_fI_e hv
  obtain ⟨_, cv14, dv14⟩ := hv
  replace h := q_be h
  obtain ⟨g15, hv, h⟩ := h
  replace hv := q_sB_e hv
  obtain ⟨_, cg15, dg15, ng15, yg15⟩ := hv
  replace h := q_be h
  obtain ⟨v16, hv, h⟩ := h
  replace hv := q_fI_e hv
  obtain ⟨_, cv16, dv16⟩ := hv
  replace h := q_be h
  obtain ⟨g17, hv, h⟩ := h
  replace hv := q_sB_e hv
  obtain ⟨_, cg17, dg17, ng17, yg17⟩ := hv
  replace h := q_be h
  obtain ⟨v18, hv, h⟩ := h
  replace hv := q_fI_e hv
  obtain ⟨_, cv18, dv18⟩ := hv
  replace h := q_be h
  obtain ⟨g19, hv, h⟩ := h
  replace hv := q_sI_e hv
  obtain ⟨_, cg19, dg19, yg19⟩ := hv
  refine ⟨_, cg13, dg13, rfl, rfl, _, yg13, ⟨some _, rfl⟩, ⟨some _, rfl⟩, _, _, cv14, dv14, _, cg15, dg15, ng15.1, ng15.2, _, yg15, ⟨some _, rfl⟩, ⟨some _, rfl⟩, _, _, cv16, dv16, _, cg17, dg17, ng17.1, ng17.2, _, yg17, ⟨some _, rfl⟩, ⟨some _, rfl⟩, _, _, cv18, dv18, _, cg19, dg19, rfl, rfl, _, yg19, ?_⟩
  replace h := q_be h
  obtain ⟨v20, hv, h⟩ := h
  replace hv := q_fI_e hv
  obtain ⟨_, cv20, dv20⟩ := hv
  replace h := q_be h
  obtain ⟨g21, hv, h⟩ := h
  replace hv := q_sI_e hv
  obtain ⟨_, cg21, dg21, yg21⟩ := hv
  replace h := q_be h
  obtain ⟨v22, hv, h⟩ := h
  replace hv := q_fI_e hv
  obtain ⟨_, cv22, dv22⟩ := hv
  replace h := q_be h
  obtain ⟨g23, hv, h⟩ := h
  replace hv := q_sI_e hv
  obtain ⟨_, cg23, dg23, yg23⟩ := hv
  replace h := q_be h
  obtain ⟨v24, hv, h⟩ := h
  replace hv := q_fI_e hv
  obtain ⟨_, cv24, dv24⟩ := hv
  replace h := q_be h
  obtain ⟨g25, hv, h⟩ := h
  replace hv := q_sI_e hv
  obtain ⟨_, cg25, dg25, yg25⟩ := hv
  refine ⟨⟨some _, rfl⟩, ⟨some _, rfl⟩, _, _, cv20, dv20, _, cg21, dg21, rfl, rfl, _, yg21, ⟨some _, rfl⟩, ⟨some _, rfl⟩, _, _, cv22, dv22, _, cg23, dg23, rfl, rfl, _, yg23, ⟨some _, rfl⟩, ⟨some _, rfl⟩, _, _, cv24, dv24, _, cg25, dg25, rfl, rfl, _, yg25, ⟨some _, rfl⟩, ⟨some _, rfl⟩, ?_⟩
  replace h := q_be h
  obtain ⟨v26, hv, h⟩ := h
  replace hv := q_fI_e hv
  obtain ⟨_, cv26, dv26⟩ := hv
  replace h := q_be h
  obtain ⟨g27, hv, h⟩ := h
  replace hv := q_sI_e hv
  obtain ⟨_, cg27, dg27, yg27⟩ := hv
  replace h := q_be h
  obtain ⟨v28, hv, h⟩ := h
  replace hv := q_fI_e hv
  obtain ⟨_, cv28, dv28⟩ := hv
  replace h := q_be h
  obtain ⟨g29, hv, h⟩ := h
  replace hv := q_sI_e hv
  obtain ⟨_, cg29, dg29, yg29⟩ := hv
  replace h := q_be h
  obtain ⟨v30, hv, h⟩ := h
  replace hv := q_fI_e hv
  obtain ⟨_, cv30, dv30⟩ := hv
  replace h := q_be h
  obtain ⟨g31, hv, h⟩ := h
  replace hv := q_sI_e hv
  obtain ⟨_, cg31, dg31, yg31⟩ := hv
  replace h := q_be h
  obtain ⟨v32, hv, h⟩ := h
  replace hv := q_fI_e hv
  obtain ⟨_, cv32, dv32⟩ := hv
  refine ⟨_, _, cv26, dv26, _, cg27, dg27, rfl, rfl, _, yg27, ⟨some _, rfl⟩, ⟨some _, rfl⟩, _, _, cv28, dv28, _, cg29, dg29, rfl, rfl, _, yg29, ⟨some _, rfl⟩, ⟨some _, rfl⟩, _, _, cv30, dv30, _, cg31, dg31, rfl, rfl, _, yg31, ⟨some _, rfl⟩, ⟨some _, rfl⟩, _, _, cv32, dv32, ?_⟩
  replace h := q_be h
  obtain ⟨g33, hv, h⟩ := h
  replace hv := q_sI_e hv
  obtain ⟨_, cg33, dg33, yg33⟩ := hv
  replace h := q_be h
  obtain ⟨v34, hv, h⟩ := h
  replace hv := q_fR_e hv
  obtain ⟨_, cv34, dv34⟩ := hv
  replace h := q_be h
  obtain ⟨g35, hv, h⟩ := h
  replace hv := q_sR_e hv
  obtain ⟨_, cg35, dg35, yg35⟩ := hv
  replace h := q_be h
  obtain ⟨v36, hv, h⟩ := h
  replace hv := q_fR_e hv
  obtain ⟨_, cv36, dv36⟩ := hv
  replace h := q_be h
  obtain ⟨g37, hv, h⟩ := h
  replace hv := q_sR_e hv
  obtain ⟨_, cg37, dg37, yg37⟩ := hv
  cases h
  exact ⟨_, cg33, dg33, rfl, rfl, _, yg33, ⟨some _, rfl⟩, ⟨some _, rfl⟩, _, _, cv34, dv34, _, cg35, dg35, q_nra, q_fta, _, yg35, ⟨some _, rfl⟩, ⟨some _, rfl⟩, _, _, cv36, dv36, _, cg37, dg37, q_nra, q_fta, _, yg37, rfl, rfl, hk⟩
noncomputable def fX4_again (g : ps_G) (x0 : Nat) : Option (Option Nat × ps_G) := Option.bind (fX4_init_ (q_new 4 g) g.1 x0) fun v1 => some ((some g.1), v1)
theorem rX4_again {d : Nat} {Q : ps_Rs → ps_G → Prop} {g : ps_G} {x0 : Nat} {r : Option Nat × ps_G} (h : fX4_again g x0 = some r) (hk : Q (.inl (some (va_rf r.1))) r.2) : ps_Ok mX4_again (d + 2) [.ref x0] g Q := by
  unfold fX4_again at h
  refine sX4_again_0 ?_
  replace h := q_be h
  obtain ⟨v1, hv, h⟩ := h
  refine ⟨rfl, ⟨some _, rfl⟩, ?_⟩
  refine rX4_init_ hv ?_
  cases h
  exact ⟨some _, _, rfl, rfl, ⟨_, rfl, Or.inl ⟨_, rfl⟩⟩, hk⟩
noncomputable def jX11_move_93 (g : ps_G) (x0 : Nat) (x3 : Int32) (x5 : Option Nat) (x6 : Option Nat) : Option ((String ⊕ Unit) × ps_G) := Option.bind (x6) fun a35 => Option.bind (x5) fun a36 => Option.bind (q_ob 9 g a35) fun u37 => Option.bind (fX9_insert g a35 a36 x3) fun v38 => Option.bind (q_ob 11 v38 x0) fun u39 => Option.bind (fX11_become v38 x0 a35) fun v40 => some (.inr (), v40)
theorem pjX11_move_93 {d : Nat} {Q : ps_Rs → ps_G → Prop} {g : ps_G} {x0 : Nat} {x3 : Int32} {x5 : Option Nat} {x6 : Option Nat} {r : (String ⊕ Unit) × ps_G} (h : jX11_move_93 g x0 x3 x5 x6 = some r) (hk : Q (q_rV r.1) r.2) : ps_At mX11_move (d + 7) 93 [(0, .ref x0), (3, .int x3), (5, va_rf x5), (6, va_rf x6)] [] g Q := by
  unfold jX11_move_93 at h
  refine sX11_move_93 ?_
  replace h := q_be h
  obtain ⟨a35, ea35, h⟩ := h
  subst ea35
  replace h := q_be h
  obtain ⟨a36, ea36, h⟩ := h
  subst ea36
  replace h := q_be h
  obtain ⟨u37, hv, h⟩ := h
  replace hv := q_ob_e hv
  obtain ⟨_, cu37⟩ := hv
  replace h := q_be h
  obtain ⟨v38, hv, h⟩ := h
  refine ⟨⟨some _, rfl⟩, ⟨some _, rfl⟩, ⟨_, cu37⟩, ?_⟩
  refine rX9_insert hv ?_
  replace h := q_be h
  obtain ⟨u39, hv, h⟩ := h
  replace hv := q_ob_e hv
  obtain ⟨_, cu39⟩ := hv
  replace h := q_be h
  obtain ⟨v40, hv, h⟩ := h
  refine ⟨⟨some _, rfl⟩, ⟨some _, rfl⟩, ⟨_, cu39⟩, ?_⟩
  refine rX11_become hv ?_
  cases h
  exact ⟨rfl, rfl, hk⟩
noncomputable def jX11_move_62 (g : ps_G) (x0 : Nat) (x1 : Int32) (x2 : Int32) (x3 : Int32) (x4 : Option Nat) (k0 : Int32) : Option ((String ⊕ Unit) × ps_G) := q_tc (fX11_refuse g k0) fun v19 g20 => Option.bind (x4) fun a21 => Option.bind (q_ob 4 g20 a21) fun u22 => q_b2 (fX4_again g20 a21) fun v23 g24 => Option.bind (v23) fun a25 => Option.bind (q_sI 4 2 g24 a25 x2) fun g26 => Option.bind (q_fR 11 0 g26 x0) fun v27 => Option.bind (v27) fun a28 => Option.bind (q_ob 9 g26 a28) fun u29 => q_b2 (fX9_again g26 a28) fun v30 g31 => Option.bind (v30) fun a32 => Option.bind (q_ob 9 g31 a32) fun u33 => Option.bind (fX9_remove g31 a32 x1) fun v34 => jX11_move_93 v34 x0 x3 (some a25) (some a32)
theorem pjX11_move_62 {d : Nat} {Q : ps_Rs → ps_G → Prop} {g : ps_G} {x0 : Nat} {x1 : Int32} {x2 : Int32} {x3 : Int32} {x4 : Option Nat} {k0 : Int32} {r : (String ⊕ Unit) × ps_G} (h : jX11_move_62 g x0 x1 x2 x3 x4 k0 = some r) (hk : Q (q_rV r.1) r.2) : ps_At mX11_move (d + 7) 62 [(0, .ref x0), (1, .int x1), (2, .int x2), (3, .int x3), (4, va_rf x4)] [.int k0] g Q := by
  unfold jX11_move_62 at h
  refine sX11_move_62 ?_
  replace h := q_tc_e h
  rcases h with ⟨E, g20, hv, rfl⟩ | ⟨v19, g20, hv, h⟩
  · exact rX11_refuse hv ⟨rfl, hk⟩
  refine rX11_refuse hv ?_
  replace h := q_be h
  obtain ⟨a21, ea21, h⟩ := h
  subst ea21
  replace h := q_be h
  obtain ⟨u22, hv, h⟩ := h
  replace hv := q_ob_e hv
  obtain ⟨_, cu22⟩ := hv
  replace h := q_b2_e h
  obtain ⟨v23, g24, hv, h⟩ := h
  refine ⟨⟨some _, rfl⟩, ⟨_, cu22⟩, ?_⟩
  refine rX4_again hv ?_
  replace h := q_be h
  obtain ⟨a25, ea25, h⟩ := h
  subst ea25
  replace h := q_be h
  obtain ⟨g26, hv, h⟩ := h
  replace hv := q_sI_e hv
  obtain ⟨_, cg26, dg26, yg26⟩ := hv
  replace h := q_be h
  obtain ⟨v27, hv, h⟩ := h
  replace hv := q_fR_e hv
  obtain ⟨_, cv27, dv27⟩ := hv
  replace h := q_be h
  obtain ⟨a28, ea28, h⟩ := h
  subst ea28
  replace h := q_be h
  obtain ⟨u29, hv, h⟩ := h
  replace hv := q_ob_e hv
  obtain ⟨_, cu29⟩ := hv
  replace h := q_b2_e h
  obtain ⟨v30, g31, hv, h⟩ := h
  refine ⟨_, _, rfl, by decide, ⟨some _, rfl⟩, _, cg26, dg26, rfl, rfl, _, yg26, ⟨some _, rfl⟩, _, _, cv27, dv27, ⟨_, cu29⟩, ?_⟩
  refine rX9_again hv ?_
  replace h := q_be h
  obtain ⟨a32, ea32, h⟩ := h
  subst ea32
  replace h := q_be h
  obtain ⟨u33, hv, h⟩ := h
  replace hv := q_ob_e hv
  obtain ⟨_, cu33⟩ := hv
  replace h := q_be h
  obtain ⟨v34, hv, h⟩ := h
  refine ⟨_, _, rfl, by decide, ⟨some _, rfl⟩, ⟨_, cu33⟩, ?_⟩
  refine rX9_remove hv ?_
  exact ps_weak (pjX11_move_93 h hk) ⟨rfl, rfl, rfl, rfl, trivial⟩
noncomputable def jX11_move_57 (g : ps_G) (x0 : Nat) (x1 : Int32) (x2 : Int32) (x3 : Int32) (x4 : Option Nat) : Option ((String ⊕ Unit) × ps_G) := jX11_move_62 g x0 x1 x2 x3 x4 (1 : Int32)
theorem pjX11_move_57 {d : Nat} {Q : ps_Rs → ps_G → Prop} {g : ps_G} {x0 : Nat} {x1 : Int32} {x2 : Int32} {x3 : Int32} {x4 : Option Nat} {r : (String ⊕ Unit) × ps_G} (h : jX11_move_57 g x0 x1 x2 x3 x4 = some r) (hk : Q (q_rV r.1) r.2) : ps_At mX11_move (d + 7) 57 [(0, .ref x0), (1, .int x1), (2, .int x2), (3, .int x3), (4, va_rf x4)] [] g Q := by
  unfold jX11_move_57 at h
  refine sX11_move_57 ?_
  exact ps_weak (pjX11_move_62 h hk) ⟨(by first | rfl | (cases x4 <;> rfl)), (by first | rfl | (cases x4 <;> rfl)), (by first | rfl | (cases x4 <;> rfl)), (by first | rfl | (cases x4 <;> rfl)), (by first | rfl | (cases x4 <;> rfl)), trivial⟩
noncomputable def fX11_move (g : ps_G) (x0 : Nat) (x1 : Int32) (x2 : Int32) (x3 : Int32) : Option ((String ⊕ Unit) × ps_G) := Option.bind (q_ob 11 g x0) fun u1 => q_tc (fX11_known g x0 x1) fun v2 g3 => Option.bind (q_ob 11 g3 x0) fun u4 => q_tc (fX11_needParent g3 x0 x2) fun v5 g6 => Option.bind (q_fR 11 0 g6 x0) fun v7 => Option.bind (v7) fun a8 => Option.bind (q_ob 9 g6 a8) fun u9 => Option.bind (fX9_among g6 a8 x2) fun v10 => Option.bind (v2) fun a11 => Option.bind (q_fI 4 2 g6 a11) fun v12 => q_tc (fX11_range g6 x3 (0 : Int32) (v10 - (if ¬ v12 = x2 then (0 : Int32) else (1 : Int32)))) fun v16 g17 => if x2 = x1 then (jX11_move_57 g17 x0 x1 x2 x3 (some a11)) else (Option.bind (q_fR 11 0 g17 x0) fun v41 => Option.bind (v41) fun a42 => Option.bind (q_ob 9 g17 a42) fun u43 => Option.bind (fX9_isIn g17 a42 x2 x1) fun v44 => if v44 = 0 then (jX11_move_62 g17 x0 x1 x2 x3 (some a11) (0 : Int32)) else (jX11_move_57 g17 x0 x1 x2 x3 (some a11)))
theorem rX11_move {d : Nat} {Q : ps_Rs → ps_G → Prop} {g : ps_G} {x0 : Nat} {x1 : Int32} {x2 : Int32} {x3 : Int32} {r : (String ⊕ Unit) × ps_G} (h : fX11_move g x0 x1 x2 x3 = some r) (hk : Q (q_rV r.1) r.2) : ps_Ok mX11_move (d + 7) [.ref x0, .int x1, .int x2, .int x3] g Q := by
  unfold fX11_move at h
  refine sX11_move_0 ?_
  replace h := q_be h
  obtain ⟨u1, hv, h⟩ := h
  replace hv := q_ob_e hv
  obtain ⟨_, cu1⟩ := hv
  refine ⟨⟨some _, rfl⟩, ⟨_, cu1⟩, ?_⟩
  replace h := q_tc_e h
  rcases h with ⟨E, g3, hv, rfl⟩ | ⟨v2, g3, hv, h⟩
  · exact rX11_known hv hk
  refine rX11_known hv ?_
  replace h := q_be h
  obtain ⟨u4, hv, h⟩ := h
  replace hv := q_ob_e hv
  obtain ⟨_, cu4⟩ := hv
  refine ⟨_, _, rfl, by decide, ⟨some _, rfl⟩, ⟨_, cu4⟩, ?_⟩
  replace h := q_tc_e h
  rcases h with ⟨E, g6, hv, rfl⟩ | ⟨v5, g6, hv, h⟩
  · exact rX11_needParent hv hk
  refine rX11_needParent hv ?_
  replace h := q_be h
  obtain ⟨v7, hv, h⟩ := h
  replace hv := q_fR_e hv
  obtain ⟨_, cv7, dv7⟩ := hv
  replace h := q_be h
  obtain ⟨a8, ea8, h⟩ := h
  subst ea8
  replace h := q_be h
  obtain ⟨u9, hv, h⟩ := h
  replace hv := q_ob_e hv
  obtain ⟨_, cu9⟩ := hv
  replace h := q_be h
  obtain ⟨v10, hv, h⟩ := h
  refine ⟨⟨some _, rfl⟩, _, _, cv7, dv7, ⟨_, cu9⟩, ?_⟩
  refine rX9_among hv ?_
  replace h := q_be h
  obtain ⟨a11, ea11, h⟩ := h
  subst ea11
  replace h := q_be h
  obtain ⟨v12, hv, h⟩ := h
  replace hv := q_fI_e hv
  obtain ⟨_, cv12, dv12⟩ := hv
  have kJ15 : ∀ w14 : Int32, w14 = (if ¬ v12 = x2 then (0 : Int32) else (1 : Int32)) → ps_At mX11_move (d + 7) 36 [(0, .ref x0), (1, .int x1), (2, .int x2), (3, .int x3), (4, .ref a11)] [.int w14, .int v10, .int (0 : Int32), .int x3] g6 Q := by
    rintro _ rfl
    refine sX11_move_36 ?_
    replace h := q_tc_e h
    rcases h with ⟨E, g17, hv, rfl⟩ | ⟨v16, g17, hv, h⟩
    · exact rX11_range hv ⟨rfl, hk⟩
    refine rX11_range hv ?_
    refine And.intro (fun hc18 => ?_) (fun hc18 => ?_)
    · replace h := q_ifp (hc18) h
      exact ps_weak (pjX11_move_57 h hk) ⟨rfl, rfl, rfl, rfl, rfl, trivial⟩
    · replace h := q_ifn (hc18) h
      replace h := q_be h
      obtain ⟨v41, hv, h⟩ := h
      replace hv := q_fR_e hv
      obtain ⟨_, cv41, dv41⟩ := hv
      replace h := q_be h
      obtain ⟨a42, ea42, h⟩ := h
      subst ea42
      replace h := q_be h
      obtain ⟨u43, hv, h⟩ := h
      replace hv := q_ob_e hv
      obtain ⟨_, cu43⟩ := hv
      replace h := q_be h
      obtain ⟨v44, hv, h⟩ := h
      refine ⟨⟨some _, rfl⟩, _, _, cv41, dv41, ⟨_, cu43⟩, ?_⟩
      refine rX9_isIn hv ?_
      refine And.intro (fun hc45 => ?_) (fun hc45 => ?_)
      · replace h := q_ifp (hc45) h
        refine sX11_move_61 ?_
        exact ps_weak (pjX11_move_62 h hk) ⟨rfl, rfl, rfl, rfl, rfl, trivial⟩
      · replace h := q_ifn (hc45) h
        exact ps_weak (pjX11_move_57 h hk) ⟨rfl, rfl, rfl, rfl, rfl, trivial⟩
  refine ⟨⟨some _, rfl⟩, _, _, cv12, dv12, ?_⟩
  refine And.intro (fun hc13 => ?_) (fun hc13 => ?_)
  · refine sX11_move_35 ?_
    exact ps_weak (kJ15 _ (if_pos (hc13)).symm) ⟨rfl, rfl, rfl, rfl, rfl, trivial⟩
  · exact ps_weak (kJ15 _ (if_neg (hc13)).symm) ⟨rfl, rfl, rfl, rfl, rfl, trivial⟩
noncomputable def fX11_replaceLayer (g : ps_G) (x0 : Nat) (x1 : Nat) : Option (ps_G) := Option.bind (q_fR 11 0 g x0) fun v1 => Option.bind (v1) fun a2 => Option.bind (q_ob 9 g a2) fun u3 => q_b2 (fX9_again g a2) fun v4 g5 => Option.bind (v4) fun a6 => Option.bind (q_ob 9 g5 a6) fun u7 => Option.bind (fX9_exchange g5 a6 x1) fun v8 => Option.bind (q_ob 11 v8 x0) fun u9 => Option.bind (fX11_become v8 x0 a6) fun v10 => some v10
theorem rX11_replaceLayer {d : Nat} {Q : ps_Rs → ps_G → Prop} {g : ps_G} {x0 : Nat} {x1 : Nat} {r : ps_G} (h : fX11_replaceLayer g x0 x1 = some r) (hk : Q (.inl none) r) : ps_Ok mX11_replaceLayer (d + 3) [.ref x0, .ref x1] g Q := by
  unfold fX11_replaceLayer at h
  refine sX11_replaceLayer_0 ?_
  replace h := q_be h
  obtain ⟨v1, hv, h⟩ := h
  replace hv := q_fR_e hv
  obtain ⟨_, cv1, dv1⟩ := hv
  replace h := q_be h
  obtain ⟨a2, ea2, h⟩ := h
  subst ea2
  replace h := q_be h
  obtain ⟨u3, hv, h⟩ := h
  replace hv := q_ob_e hv
  obtain ⟨_, cu3⟩ := hv
  replace h := q_b2_e h
  obtain ⟨v4, g5, hv, h⟩ := h
  refine ⟨⟨some _, rfl⟩, _, _, cv1, dv1, ⟨_, cu3⟩, ?_⟩
  refine rX9_again hv ?_
  replace h := q_be h
  obtain ⟨a6, ea6, h⟩ := h
  subst ea6
  replace h := q_be h
  obtain ⟨u7, hv, h⟩ := h
  replace hv := q_ob_e hv
  obtain ⟨_, cu7⟩ := hv
  replace h := q_be h
  obtain ⟨v8, hv, h⟩ := h
  refine ⟨_, _, rfl, by decide, ⟨some _, rfl⟩, ⟨some _, rfl⟩, ⟨_, cu7⟩, ?_⟩
  refine rX9_exchange hv ?_
  replace h := q_be h
  obtain ⟨u9, hv, h⟩ := h
  replace hv := q_ob_e hv
  obtain ⟨_, cu9⟩ := hv
  replace h := q_be h
  obtain ⟨v10, hv, h⟩ := h
  refine ⟨⟨some _, rfl⟩, ⟨some _, rfl⟩, ⟨_, cu9⟩, ?_⟩
  refine rX11_become hv ?_
  cases h
  exact ⟨rfl, rfl, hk⟩
noncomputable def jX11_set_189 (g : ps_G) (x0 : Nat) (x4 : Option Nat) : Option ((String ⊕ Unit) × ps_G) := Option.bind (x4) fun a16 => Option.bind (q_ob 11 g x0) fun u17 => Option.bind (fX11_replaceLayer g x0 a16) fun v18 => some (.inr (), v18)
theorem pjX11_set_189 {d : Nat} {Q : ps_Rs → ps_G → Prop} {g : ps_G} {x0 : Nat} {x4 : Option Nat} {r : (String ⊕ Unit) × ps_G} (h : jX11_set_189 g x0 x4 = some r) (hk : Q (q_rV r.1) r.2) : ps_At mX11_set (d + 7) 189 [(0, .ref x0), (4, va_rf x4)] [] g Q := by
  unfold jX11_set_189 at h
  refine sX11_set_189 ?_
  replace h := q_be h
  obtain ⟨a16, ea16, h⟩ := h
  subst ea16
  replace h := q_be h
  obtain ⟨u17, hv, h⟩ := h
  replace hv := q_ob_e hv
  obtain ⟨_, cu17⟩ := hv
  replace h := q_be h
  obtain ⟨v18, hv, h⟩ := h
  refine ⟨⟨some _, rfl⟩, ⟨some _, rfl⟩, ⟨_, cu17⟩, ?_⟩
  refine rX11_replaceLayer hv ?_
  cases h
  exact ⟨rfl, rfl, hk⟩
noncomputable def jX11_set_74 (g : ps_G) (x0 : Nat) (x1 : Int32) (x2 : Int32) (x3 : Int32) : Option ((String ⊕ Unit) × ps_G) := Option.bind (q_ob 11 g x0) fun u6 => q_tc (fX11_known g x0 x1) fun v7 g8 => Option.bind (v7) fun a9 => Option.bind (q_ob 4 g8 a9) fun u10 => q_b2 (fX4_again g8 a9) fun v11 g12 => if x2 = 0 then (Option.bind (v11) fun a14 => Option.bind (q_sI 4 3 g12 a14 x3) fun g15 => jX11_set_189 g15 x0 (some a14)) else (if x2 = 1 then (Option.bind (v11) fun a20 => Option.bind (q_sI 4 4 g12 a20 x3) fun g21 => jX11_set_189 g21 x0 (some a20)) else (if x2 = 2 then (Option.bind (v11) fun a23 => Option.bind (q_sB 4 5 g12 a23 (if ¬ x3 = (1 : Int32) then (0 : Int32) else (1 : Int32))) fun g27 => jX11_set_189 g27 x0 (some a23)) else (if x2 = 3 then (Option.bind (v11) fun a29 => Option.bind (q_sB 4 6 g12 a29 (if ¬ x3 = (1 : Int32) then (0 : Int32) else (1 : Int32))) fun g33 => jX11_set_189 g33 x0 (some a29)) else (if x2 = 4 then (Option.bind (v11) fun a35 => Option.bind (q_sI 4 7 g12 a35 x3) fun g36 => jX11_set_189 g36 x0 (some a35)) else (Option.bind (v11) fun a37 => Option.bind (q_sI 4 8 g12 a37 x3) fun g38 => jX11_set_189 g38 x0 (some a37))))))
theorem pjX11_set_74 {d : Nat} {Q : ps_Rs → ps_G → Prop} {g : ps_G} {x0 : Nat} {x1 : Int32} {x2 : Int32} {x3 : Int32} {r : (String ⊕ Unit) × ps_G} (h : jX11_set_74 g x0 x1 x2 x3 = some r) (hk : Q (q_rV r.1) r.2) : ps_At mX11_set (d + 7) 74 [(0, .ref x0), (1, .int x1), (2, .int x2), (3, .int x3)] [] g Q := by
  unfold jX11_set_74 at h
  refine sX11_set_74 ?_
  replace h := q_be h
  obtain ⟨u6, hv, h⟩ := h
  replace hv := q_ob_e hv
  obtain ⟨_, cu6⟩ := hv
  refine ⟨⟨some _, rfl⟩, ⟨_, cu6⟩, ?_⟩
  replace h := q_tc_e h
  rcases h with ⟨E, g8, hv, rfl⟩ | ⟨v7, g8, hv, h⟩
  · exact rX11_known hv hk
  refine rX11_known hv ?_
  replace h := q_be h
  obtain ⟨a9, ea9, h⟩ := h
  subst ea9
  replace h := q_be h
  obtain ⟨u10, hv, h⟩ := h
  replace hv := q_ob_e hv
  obtain ⟨_, cu10⟩ := hv
  replace h := q_b2_e h
  obtain ⟨v11, g12, hv, h⟩ := h
  refine ⟨⟨_, cu10⟩, ?_⟩
  refine rX4_again hv ?_
  refine ⟨_, _, rfl, by decide, ?_⟩
  refine sX11_set_85 ?_
  by_cases hc13 : x2 = 0
  · replace h := q_ifp hc13 h
    have eT : ps_tsel 85 98 0 4 #[35, 44, 53, 71, 89] x2 = 120 := by
      rw [hc13]; decide +kernel
    refine ps_at_eq eT ?_
    refine sX11_set_120 ?_
    replace h := q_be h
    obtain ⟨a14, ea14, h⟩ := h
    subst ea14
    replace h := q_be h
    obtain ⟨g15, hv, h⟩ := h
    replace hv := q_sI_e hv
    obtain ⟨_, cg15, dg15, yg15⟩ := hv
    refine ⟨⟨some _, rfl⟩, _, cg15, dg15, rfl, rfl, _, yg15, ?_⟩
    exact ps_weak (pjX11_set_189 h hk) ⟨rfl, rfl, trivial⟩
  replace h := q_ifn hc13 h
  by_cases hc19 : x2 = 1
  · replace h := q_ifp hc19 h
    have eT : ps_tsel 85 98 0 4 #[35, 44, 53, 71, 89] x2 = 129 := by
      rw [hc19]; decide +kernel
    refine ps_at_eq eT ?_
    refine sX11_set_129 ?_
    replace h := q_be h
    obtain ⟨a20, ea20, h⟩ := h
    subst ea20
    replace h := q_be h
    obtain ⟨g21, hv, h⟩ := h
    replace hv := q_sI_e hv
    obtain ⟨_, cg21, dg21, yg21⟩ := hv
    refine ⟨⟨some _, rfl⟩, _, cg21, dg21, rfl, rfl, _, yg21, ?_⟩
    exact ps_weak (pjX11_set_189 h hk) ⟨rfl, rfl, trivial⟩
  replace h := q_ifn hc19 h
  by_cases hc22 : x2 = 2
  · replace h := q_ifp hc22 h
    have eT : ps_tsel 85 98 0 4 #[35, 44, 53, 71, 89] x2 = 138 := by
      rw [hc22]; decide +kernel
    refine ps_at_eq eT ?_
    refine sX11_set_138 ?_
    replace h := q_be h
    obtain ⟨a23, ea23, h⟩ := h
    subst ea23
    have kJ26 : ∀ w25 : Int32, w25 = (if ¬ x3 = (1 : Int32) then (0 : Int32) else (1 : Int32)) → ps_At mX11_set (d + 7) 150 [(0, .ref x0), (4, .ref a23)] [.int w25, .ref a23] g12 Q := by
      rintro _ rfl
      refine sX11_set_150 ?_
      replace h := q_be h
      obtain ⟨g27, hv, h⟩ := h
      replace hv := q_sB_e hv
      obtain ⟨_, cg27, dg27, ng27, yg27⟩ := hv
      refine ⟨_, cg27, dg27, ng27.1, ng27.2, _, yg27, ?_⟩
      exact ps_weak (pjX11_set_189 h hk) ⟨rfl, rfl, trivial⟩
    refine ⟨⟨some _, rfl⟩, ?_⟩
    refine And.intro (fun hc24 => ?_) (fun hc24 => ?_)
    · refine sX11_set_149 ?_
      exact ps_weak (kJ26 _ (if_pos (hc24)).symm) ⟨rfl, rfl, trivial⟩
    · exact ps_weak (kJ26 _ (if_neg (hc24)).symm) ⟨rfl, rfl, trivial⟩
  replace h := q_ifn hc22 h
  by_cases hc28 : x2 = 3
  · replace h := q_ifp hc28 h
    have eT : ps_tsel 85 98 0 4 #[35, 44, 53, 71, 89] x2 = 156 := by
      rw [hc28]; decide +kernel
    refine ps_at_eq eT ?_
    refine sX11_set_156 ?_
    replace h := q_be h
    obtain ⟨a29, ea29, h⟩ := h
    subst ea29
    have kJ32 : ∀ w31 : Int32, w31 = (if ¬ x3 = (1 : Int32) then (0 : Int32) else (1 : Int32)) → ps_At mX11_set (d + 7) 168 [(0, .ref x0), (4, .ref a29)] [.int w31, .ref a29] g12 Q := by
      rintro _ rfl
      refine sX11_set_168 ?_
      replace h := q_be h
      obtain ⟨g33, hv, h⟩ := h
      replace hv := q_sB_e hv
      obtain ⟨_, cg33, dg33, ng33, yg33⟩ := hv
      refine ⟨_, cg33, dg33, ng33.1, ng33.2, _, yg33, ?_⟩
      exact ps_weak (pjX11_set_189 h hk) ⟨rfl, rfl, trivial⟩
    refine ⟨⟨some _, rfl⟩, ?_⟩
    refine And.intro (fun hc30 => ?_) (fun hc30 => ?_)
    · refine sX11_set_167 ?_
      exact ps_weak (kJ32 _ (if_pos (hc30)).symm) ⟨rfl, rfl, trivial⟩
    · exact ps_weak (kJ32 _ (if_neg (hc30)).symm) ⟨rfl, rfl, trivial⟩
  replace h := q_ifn hc28 h
  by_cases hc34 : x2 = 4
  · replace h := q_ifp hc34 h
    have eT : ps_tsel 85 98 0 4 #[35, 44, 53, 71, 89] x2 = 174 := by
      rw [hc34]; decide +kernel
    refine ps_at_eq eT ?_
    refine sX11_set_174 ?_
    replace h := q_be h
    obtain ⟨a35, ea35, h⟩ := h
    subst ea35
    replace h := q_be h
    obtain ⟨g36, hv, h⟩ := h
    replace hv := q_sI_e hv
    obtain ⟨_, cg36, dg36, yg36⟩ := hv
    refine ⟨⟨some _, rfl⟩, _, cg36, dg36, rfl, rfl, _, yg36, ?_⟩
    exact ps_weak (pjX11_set_189 h hk) ⟨rfl, rfl, trivial⟩
  replace h := q_ifn hc34 h
  have eD : ps_tsel 85 98 0 4 #[35, 44, 53, 71, 89] x2 = 183 := by
    refine q_tsd (by decide +kernel) (fun z h1 h2 => ?_)
    have hz : z = 0 ∨ z = 1 ∨ z = 2 ∨ z = 3 ∨ z = 4 := by omega
    rcases hz with rfl | rfl | rfl | rfl | rfl
    · exact Or.inl (q_tsx (v := 0) (fun z => hc13 z))
    · exact Or.inl (q_tsx (v := 1) (fun z => hc19 z))
    · exact Or.inl (q_tsx (v := 2) (fun z => hc22 z))
    · exact Or.inl (q_tsx (v := 3) (fun z => hc28 z))
    · exact Or.inl (q_tsx (v := 4) (fun z => hc34 z))
  refine ps_at_eq eD ?_
  refine sX11_set_183 ?_
  replace h := q_be h
  obtain ⟨a37, ea37, h⟩ := h
  subst ea37
  replace h := q_be h
  obtain ⟨g38, hv, h⟩ := h
  replace hv := q_sI_e hv
  obtain ⟨_, cg38, dg38, yg38⟩ := hv
  refine ⟨⟨some _, rfl⟩, _, cg38, dg38, rfl, rfl, _, yg38, ?_⟩
  exact ps_weak (pjX11_set_189 h hk) ⟨rfl, rfl, trivial⟩
noncomputable def fX11_set (g : ps_G) (x0 : Nat) (x1 : Int32) (x2 : Int32) (x3 : Int32) : Option ((String ⊕ Unit) × ps_G) := q_tc (fX11_range g x2 (0 : Int32) (5 : Int32)) fun v1 g2 => if x2 = 0 then (q_tc (fX11_range g2 x3 (0 : Int32) (255 : Int32)) fun v4 g5 => jX11_set_74 g5 x0 x1 x2 x3) else (if x2 = 1 then (q_tc (fX11_range g2 x3 (0 : Int32) (15 : Int32)) fun v40 g41 => jX11_set_74 g41 x0 x1 x2 x3) else (if x2 = 2 ∨ x2 = 3 then (q_tc (fX11_range g2 x3 (0 : Int32) (1 : Int32)) fun v43 g44 => jX11_set_74 g44 x0 x1 x2 x3) else (q_tc (fX11_range g2 x3 (-64 : Int32) (64 : Int32)) fun v45 g46 => jX11_set_74 g46 x0 x1 x2 x3)))
theorem rX11_set {d : Nat} {Q : ps_Rs → ps_G → Prop} {g : ps_G} {x0 : Nat} {x1 : Int32} {x2 : Int32} {x3 : Int32} {r : (String ⊕ Unit) × ps_G} (h : fX11_set g x0 x1 x2 x3 = some r) (hk : Q (q_rV r.1) r.2) : ps_Ok mX11_set (d + 7) [.ref x0, .int x1, .int x2, .int x3] g Q := by
  unfold fX11_set at h
  refine sX11_set_0 ?_
  replace h := q_tc_e h
  rcases h with ⟨E, g2, hv, rfl⟩ | ⟨v1, g2, hv, h⟩
  · exact rX11_range hv ⟨rfl, hk⟩
  refine rX11_range hv ?_
  refine sX11_set_7 ?_
  by_cases hc3 : x2 = 0
  · replace h := q_ifp hc3 h
    have eT : ps_tsel 7 59 0 3 #[29, 40, 50, 50] x2 = 36 := by
      rw [hc3]; decide +kernel
    refine ps_at_eq eT ?_
    refine sX11_set_36 ?_
    replace h := q_tc_e h
    rcases h with ⟨E, g5, hv, rfl⟩ | ⟨v4, g5, hv, h⟩
    · exact rX11_range hv ⟨rfl, hk⟩
    refine rX11_range hv ?_
    exact ps_weak (pjX11_set_74 h hk) ⟨rfl, rfl, rfl, rfl, trivial⟩
  replace h := q_ifn hc3 h
  by_cases hc39 : x2 = 1
  · replace h := q_ifp hc39 h
    have eT : ps_tsel 7 59 0 3 #[29, 40, 50, 50] x2 = 47 := by
      rw [hc39]; decide +kernel
    refine ps_at_eq eT ?_
    refine sX11_set_47 ?_
    replace h := q_tc_e h
    rcases h with ⟨E, g41, hv, rfl⟩ | ⟨v40, g41, hv, h⟩
    · exact rX11_range hv ⟨rfl, hk⟩
    refine rX11_range hv ?_
    exact ps_weak (pjX11_set_74 h hk) ⟨rfl, rfl, rfl, rfl, trivial⟩
  replace h := q_ifn hc39 h
  by_cases hc42 : x2 = 2 ∨ x2 = 3
  · replace h := q_ifp hc42 h
    have eT : ps_tsel 7 59 0 3 #[29, 40, 50, 50] x2 = 57 := by
      rcases hc42 with e9 | e9 <;> (rw [e9]; decide +kernel)
    refine ps_at_eq eT ?_
    refine sX11_set_57 ?_
    replace h := q_tc_e h
    rcases h with ⟨E, g44, hv, rfl⟩ | ⟨v43, g44, hv, h⟩
    · exact rX11_range hv ⟨rfl, hk⟩
    refine rX11_range hv ?_
    exact ps_weak (pjX11_set_74 h hk) ⟨rfl, rfl, rfl, rfl, trivial⟩
  replace h := q_ifn hc42 h
  have eD : ps_tsel 7 59 0 3 #[29, 40, 50, 50] x2 = 66 := by
    refine q_tsd (by decide +kernel) (fun z h1 h2 => ?_)
    have hz : z = 0 ∨ z = 1 ∨ z = 2 ∨ z = 3 := by omega
    rcases hz with rfl | rfl | rfl | rfl
    · exact Or.inl (q_tsx (v := 0) (fun z => hc3 z))
    · exact Or.inl (q_tsx (v := 1) (fun z => hc39 z))
    · exact Or.inl (q_tsx (v := 2) (fun z => hc42 (Or.inl z)))
    · exact Or.inl (q_tsx (v := 3) (fun z => hc42 ((fun z => (Or.inr z)) z)))
  refine ps_at_eq eD ?_
  refine sX11_set_66 ?_
  replace h := q_tc_e h
  rcases h with ⟨E, g46, hv, rfl⟩ | ⟨v45, g46, hv, h⟩
  · exact rX11_range hv ⟨rfl, hk⟩
  refine rX11_range hv ?_
  exact ps_weak (pjX11_set_74 h hk) ⟨rfl, rfl, rfl, rfl, trivial⟩
noncomputable def jX11_mask_123_65 (g : ps_G) (x0 : Nat) (x2 : Int32) (x3 : Option Nat) (x4 : Option Nat) (x5 : Int32) (k0 : Option Nat) (k1 : Int32) (k2 : Int32) : Option ((Int32 × ps_G) ⊕ (ps_G)) := Option.bind (k0) fun a32 => Option.bind (q_wI g a32 k1 k2) fun g33 => some (.inl (x5 + (1 : Int32), g33))
theorem pjX11_mask_123_65 {d : Nat} {Q : ps_Rs → ps_G → Prop} {g : ps_G} {x0 : Nat} {x2 : Int32} {x3 : Option Nat} {x4 : Option Nat} {x5 : Int32} {k0 : Option Nat} {k1 : Int32} {k2 : Int32} {x : (Int32 × ps_G) ⊕ (ps_G)} (h : jX11_mask_123_65 g x0 x2 x3 x4 x5 k0 k1 k2 = some x) (hh : ∀ s' : Int32 × ps_G, x = .inl s' → ps_At mX11_mask (d + 7) 65 [(0, .ref x0), (2, .int x2), (3, va_rf x3), (4, va_rf x4), (5, .int s'.1)] [] s'.2 Q) (he : ∀ r' : ps_G, x = .inr r' → ps_At mX11_mask (d + 7) 130 [(0, .ref x0), (4, va_rf x4)] [] r' Q) : ps_At mX11_mask (d + 7) 123 [(0, .ref x0), (2, .int x2), (3, va_rf x3), (4, va_rf x4), (5, .int x5)] [.int k2, .int k1, va_rf k0] g Q := by
  unfold jX11_mask_123_65 at h
  refine sX11_mask_123 ?_
  replace h := q_be h
  obtain ⟨a32, ea32, h⟩ := h
  subst ea32
  replace h := q_be h
  obtain ⟨g33, hv, h⟩ := h
  replace hv := q_wI_e hv
  obtain ⟨_, _, cg33, pg33, ig33, yg33⟩ := hv
  refine ⟨_, _, cg33, pg33, ig33, _, yg33, by decide, ?_⟩
  exact ps_weak (hh (x5 + (1 : Int32), g33) (Option.some.inj h).symm) ⟨(by first | rfl | (cases x3 <;> cases x4 <;> rfl)), (by first | rfl | (cases x3 <;> cases x4 <;> rfl)), (by first | rfl | (cases x3 <;> cases x4 <;> rfl)), (by first | rfl | (cases x3 <;> cases x4 <;> rfl)), (by first | rfl | (cases x3 <;> cases x4 <;> rfl)), trivial⟩
noncomputable def bX11_mask_65 (x0 : Nat) (x2 : Int32) (x3 : Option Nat) (x4 : Option Nat) (x5 : Int32) (g : ps_G) : Option ((Int32 × ps_G) ⊕ (ps_G)) := Option.bind (x4) fun a19 => Option.bind (q_fR 4 16 g a19) fun v20 => Option.bind (v20) fun a21 => Option.bind (q_len g a21) fun v22 => if v22 ≤ x5 then (some (.inr g)) else (Option.bind (q_fR 4 16 g a19) fun v25 => Option.bind (v25) fun a26 => if ¬ x2 = (1 : Int32) then (if ¬ x2 = (2 : Int32) then (jX11_mask_123_65 g x0 x2 x3 (some a19) x5 (some a26) x5 (255 : Int32)) else (Option.bind (x3) fun a34 => Option.bind (q_fR 4 16 g a34) fun v35 => Option.bind (v35) fun a36 => Option.bind (q_aI g a36 x5) fun v37 => jX11_mask_123_65 g x0 x2 (some a34) (some a19) x5 (some a26) x5 ((255 : Int32) - v37))) else (Option.bind (q_fR 11 7 g x0) fun v40 => Option.bind (v40) fun a41 => Option.bind (q_fR 0 2 g a41) fun v42 => Option.bind (v42) fun a43 => Option.bind (q_aI g a43 x5) fun v44 => jX11_mask_123_65 g x0 x2 x3 (some a19) x5 (some a26) x5 v44))
theorem pbX11_mask_65 {d : Nat} {Q : ps_Rs → ps_G → Prop}  {x0 : Nat} {x2 : Int32} {x3 : Option Nat} {x4 : Option Nat} {x5 : Int32} {g : ps_G} {x : (Int32 × ps_G) ⊕ (ps_G)} (h : bX11_mask_65 x0 x2 x3 x4 x5 g = some x) (hh : ∀ s' : Int32 × ps_G, x = .inl s' → ps_At mX11_mask (d + 7) 65 [(0, .ref x0), (2, .int x2), (3, va_rf x3), (4, va_rf x4), (5, .int s'.1)] [] s'.2 Q) (he : ∀ r' : ps_G, x = .inr r' → ps_At mX11_mask (d + 7) 130 [(0, .ref x0), (4, va_rf x4)] [] r' Q) : ps_At mX11_mask (d + 7) 65 [(0, .ref x0), (2, .int x2), (3, va_rf x3), (4, va_rf x4), (5, .int x5)] [] g Q := by
  unfold bX11_mask_65 at h
  refine sX11_mask_65 ?_
  replace h := q_be h
  obtain ⟨a19, ea19, h⟩ := h
  subst ea19
  replace h := q_be h
  obtain ⟨v20, hv, h⟩ := h
  replace hv := q_fR_e hv
  obtain ⟨_, cv20, dv20⟩ := hv
  replace h := q_be h
  obtain ⟨a21, ea21, h⟩ := h
  subst ea21
  replace h := q_be h
  obtain ⟨v22, hv, h⟩ := h
  replace hv := q_len_e hv
  obtain ⟨_, _, cv22, qv22, yv22⟩ := hv
  refine ⟨⟨some _, rfl⟩, _, _, cv20, dv20, _, _, cv22, qv22, _, yv22, ?_⟩
  refine And.intro (fun hc23 => ?_) (fun hc23 => ?_)
  · replace h := q_ifp (hc23) h
    exact ps_weak (he g (Option.some.inj h).symm) ⟨(by first | rfl | (cases x3 <;> rfl)), (by first | rfl | (cases x3 <;> rfl)), trivial⟩
  · replace h := q_ifn (hc23) h
    replace h := q_be h
    obtain ⟨v25, hv, h⟩ := h
    replace hv := q_fR_e hv
    obtain ⟨_, cv25, dv25⟩ := hv
    replace h := q_be h
    obtain ⟨a26, ea26, h⟩ := h
    subst ea26
    refine ⟨⟨some _, rfl⟩, _, _, cv25, dv25, ?_⟩
    refine And.intro (fun hc27 => ?_) (fun hc27 => ?_)
    · replace h := q_ifp (hc27) h
      refine sX11_mask_101 ?_
      refine And.intro (fun hc30 => ?_) (fun hc30 => ?_)
      · replace h := q_ifp (hc30) h
        refine sX11_mask_120 ?_
        exact ps_weak (pjX11_mask_123_65 h hh he) ⟨(by first | rfl | (cases x3 <;> rfl)), (by first | rfl | (cases x3 <;> rfl)), (by first | rfl | (cases x3 <;> rfl)), (by first | rfl | (cases x3 <;> rfl)), (by first | rfl | (cases x3 <;> rfl)), trivial⟩
      · replace h := q_ifn (hc30) h
        replace h := q_be h
        obtain ⟨a34, ea34, h⟩ := h
        subst ea34
        replace h := q_be h
        obtain ⟨v35, hv, h⟩ := h
        replace hv := q_fR_e hv
        obtain ⟨_, cv35, dv35⟩ := hv
        replace h := q_be h
        obtain ⟨a36, ea36, h⟩ := h
        subst ea36
        replace h := q_be h
        obtain ⟨v37, hv, h⟩ := h
        replace hv := q_aI_e hv
        obtain ⟨_, _, cv37, iv37, yv37⟩ := hv
        refine ⟨⟨some _, rfl⟩, _, _, cv35, dv35, _, _, cv37, iv37, _, yv37, ?_⟩
        exact ps_weak (pjX11_mask_123_65 h hh he) ⟨rfl, rfl, rfl, rfl, rfl, trivial⟩
    · replace h := q_ifn (hc27) h
      replace h := q_be h
      obtain ⟨v40, hv, h⟩ := h
      replace hv := q_fR_e hv
      obtain ⟨_, cv40, dv40⟩ := hv
      replace h := q_be h
      obtain ⟨a41, ea41, h⟩ := h
      subst ea41
      replace h := q_be h
      obtain ⟨v42, hv, h⟩ := h
      replace hv := q_fR_e hv
      obtain ⟨_, cv42, dv42⟩ := hv
      replace h := q_be h
      obtain ⟨a43, ea43, h⟩ := h
      subst ea43
      replace h := q_be h
      obtain ⟨v44, hv, h⟩ := h
      replace hv := q_aI_e hv
      obtain ⟨_, _, cv44, iv44, yv44⟩ := hv
      refine ⟨⟨some _, rfl⟩, _, _, cv40, dv40, _, _, cv42, dv42, _, _, cv44, iv44, _, yv44, ?_⟩
      exact ps_weak (pjX11_mask_123_65 h hh he) ⟨(by first | rfl | (cases x3 <;> rfl)), (by first | rfl | (cases x3 <;> rfl)), (by first | rfl | (cases x3 <;> rfl)), (by first | rfl | (cases x3 <;> rfl)), (by first | rfl | (cases x3 <;> rfl)), trivial⟩
noncomputable def jX11_mask_59 (g : ps_G) (x0 : Nat) (x2 : Int32) (x3 : Option Nat) (x4 : Option Nat) (k0 : Option Nat) (k1 : Nat) : Option ((String ⊕ Unit) × ps_G) := Option.bind (k0) fun a17 => Option.bind (q_sR 4 16 g a17 (some k1)) fun g18 => Option.bind (q_lp (fun s => bX11_mask_65 x0 x2 x3 x4 s.1 s.2) ((0 : Int32), g18)) fun s49 => Option.bind (x4) fun a50 => Option.bind (q_ob 11 s49 x0) fun u51 => Option.bind (fX11_replaceLayer s49 x0 a50) fun v52 => some (.inr (), v52)
theorem pjX11_mask_59 {d : Nat} {Q : ps_Rs → ps_G → Prop} {g : ps_G} {x0 : Nat} {x2 : Int32} {x3 : Option Nat} {x4 : Option Nat} {k0 : Option Nat} {k1 : Nat} {r : (String ⊕ Unit) × ps_G} (h : jX11_mask_59 g x0 x2 x3 x4 k0 k1 = some r) (hk : Q (q_rV r.1) r.2) : ps_At mX11_mask (d + 7) 59 [(0, .ref x0), (2, .int x2), (3, va_rf x3), (4, va_rf x4)] [.ref k1, va_rf k0] g Q := by
  unfold jX11_mask_59 at h
  refine sX11_mask_59 ?_
  replace h := q_be h
  obtain ⟨a17, ea17, h⟩ := h
  subst ea17
  replace h := q_be h
  obtain ⟨g18, hv, h⟩ := h
  replace hv := q_sR_e hv
  obtain ⟨_, cg18, dg18, yg18⟩ := hv
  refine ⟨_, cg18, dg18, rfl, rfl, _, yg18, by decide, ?_⟩
  refine ps_weak (lv' := [(0, .ref x0), (2, .int x2), (3, va_rf x3), (4, va_rf x4), (5, .int (0 : Int32))]) ?_ ⟨(by first | rfl | (cases x3 <;> cases x4 <;> rfl)), (by first | rfl | (cases x3 <;> cases x4 <;> rfl)), (by first | rfl | (cases x3 <;> cases x4 <;> rfl)), (by first | rfl | (cases x3 <;> cases x4 <;> rfl)), (by first | rfl | (cases x3 <;> cases x4 <;> rfl)), trivial⟩
  replace h := q_be h
  obtain ⟨s49, hl, h⟩ := h
  refine ps_weak (q_lp_ok hl (fun s => ps_At mX11_mask (d + 7) 65 [(0, .ref x0), (2, .int x2), (3, va_rf x3), (4, va_rf x4), (5, .int s.1)] [] s.2 Q) (fun r => ps_At mX11_mask (d + 7) 130 [(0, .ref x0), (4, va_rf x4)] [] r Q) (fun s x hb hh he => pbX11_mask_65 hb hh he) ?_) ⟨(by first | rfl | (cases x3 <;> cases x4 <;> rfl)), (by first | rfl | (cases x3 <;> cases x4 <;> rfl)), (by first | rfl | (cases x3 <;> cases x4 <;> rfl)), (by first | rfl | (cases x3 <;> cases x4 <;> rfl)), (by first | rfl | (cases x3 <;> cases x4 <;> rfl)), trivial⟩
  refine (?_ : ps_At mX11_mask (d + 7) 130 [(0, .ref x0), (4, va_rf x4)] [] s49 Q)
  refine sX11_mask_130 ?_
  replace h := q_be h
  obtain ⟨a50, ea50, h⟩ := h
  subst ea50
  replace h := q_be h
  obtain ⟨u51, hv, h⟩ := h
  replace hv := q_ob_e hv
  obtain ⟨_, cu51⟩ := hv
  replace h := q_be h
  obtain ⟨v52, hv, h⟩ := h
  refine ⟨⟨some _, rfl⟩, ⟨some _, rfl⟩, ⟨_, cu51⟩, ?_⟩
  refine rX11_replaceLayer hv ?_
  cases h
  exact ⟨rfl, rfl, hk⟩
noncomputable def jX11_mask_33 (g : ps_G) (x0 : Nat) (x2 : Int32) (x3 : Option Nat) (k0 : Int32) : Option ((String ⊕ Unit) × ps_G) := q_tc (fX11_refuse g k0) fun v7 g8 => Option.bind (x3) fun a9 => Option.bind (q_ob 4 g8 a9) fun u10 => q_b2 (fX4_again g8 a9) fun v11 g12 => Option.bind (v11) fun a13 => if ¬ x2 = 0 then (Option.bind (q_nA .int g12 (576 : Int32)) fun g16 => jX11_mask_59 g16 x0 x2 (some a9) (some a13) (some a13) g12.1) else (jX11_mask_59 g12 x0 x2 (some a9) (some a13) (some a13) 0)
theorem pjX11_mask_33 {d : Nat} {Q : ps_Rs → ps_G → Prop} {g : ps_G} {x0 : Nat} {x2 : Int32} {x3 : Option Nat} {k0 : Int32} {r : (String ⊕ Unit) × ps_G} (h : jX11_mask_33 g x0 x2 x3 k0 = some r) (hk : Q (q_rV r.1) r.2) : ps_At mX11_mask (d + 7) 33 [(0, .ref x0), (2, .int x2), (3, va_rf x3)] [.int k0] g Q := by
  unfold jX11_mask_33 at h
  refine sX11_mask_33 ?_
  replace h := q_tc_e h
  rcases h with ⟨E, g8, hv, rfl⟩ | ⟨v7, g8, hv, h⟩
  · exact rX11_refuse hv ⟨rfl, hk⟩
  refine rX11_refuse hv ?_
  replace h := q_be h
  obtain ⟨a9, ea9, h⟩ := h
  subst ea9
  replace h := q_be h
  obtain ⟨u10, hv, h⟩ := h
  replace hv := q_ob_e hv
  obtain ⟨_, cu10⟩ := hv
  replace h := q_b2_e h
  obtain ⟨v11, g12, hv, h⟩ := h
  refine ⟨⟨some _, rfl⟩, ⟨_, cu10⟩, ?_⟩
  refine rX4_again hv ?_
  replace h := q_be h
  obtain ⟨a13, ea13, h⟩ := h
  subst ea13
  refine ⟨_, _, rfl, by decide, ⟨some _, rfl⟩, ?_⟩
  refine And.intro (fun hc14 => ?_) (fun hc14 => ?_)
  · replace h := q_ifp (hc14) h
    refine sX11_mask_54 ?_
    replace h := q_be h
    obtain ⟨g16, hv, h⟩ := h
    replace hv := q_nA_e hv
    obtain ⟨ag16, bg16, yg16⟩ := hv
    refine ⟨Or.inl rfl, ag16, bg16, _, yg16, ?_⟩
    exact ps_weak (pjX11_mask_59 h hk) ⟨rfl, rfl, rfl, rfl, trivial⟩
  · replace h := q_ifn (hc14) h
    exact ps_weak (pjX11_mask_59 h hk) ⟨rfl, rfl, rfl, rfl, trivial⟩
noncomputable def jX11_mask_32 (g : ps_G) (x0 : Nat) (x2 : Int32) (x3 : Option Nat) : Option ((String ⊕ Unit) × ps_G) := jX11_mask_33 g x0 x2 x3 (0 : Int32)
theorem pjX11_mask_32 {d : Nat} {Q : ps_Rs → ps_G → Prop} {g : ps_G} {x0 : Nat} {x2 : Int32} {x3 : Option Nat} {r : (String ⊕ Unit) × ps_G} (h : jX11_mask_32 g x0 x2 x3 = some r) (hk : Q (q_rV r.1) r.2) : ps_At mX11_mask (d + 7) 32 [(0, .ref x0), (2, .int x2), (3, va_rf x3)] [] g Q := by
  unfold jX11_mask_32 at h
  refine sX11_mask_32 ?_
  exact ps_weak (pjX11_mask_33 h hk) ⟨(by first | rfl | (cases x3 <;> rfl)), (by first | rfl | (cases x3 <;> rfl)), (by first | rfl | (cases x3 <;> rfl)), trivial⟩
noncomputable def fX11_mask (g : ps_G) (x0 : Nat) (x1 : Int32) (x2 : Int32) : Option ((String ⊕ Unit) × ps_G) := q_tc (fX11_range g x2 (0 : Int32) (3 : Int32)) fun v1 g2 => Option.bind (q_ob 11 g2 x0) fun u3 => q_tc (fX11_known g2 x0 x1) fun v4 g5 => if ¬ x2 = (2 : Int32) then (jX11_mask_32 g5 x0 x2 v4) else (Option.bind (v4) fun a55 => Option.bind (q_fR 4 16 g5 a55) fun v56 => Option.bind (v56) fun a57 => Option.bind (q_len g5 a57) fun v58 => if v58 = (576 : Int32) then (jX11_mask_32 g5 x0 x2 (some a55)) else (jX11_mask_33 g5 x0 x2 (some a55) (1 : Int32)))
theorem rX11_mask {d : Nat} {Q : ps_Rs → ps_G → Prop} {g : ps_G} {x0 : Nat} {x1 : Int32} {x2 : Int32} {r : (String ⊕ Unit) × ps_G} (h : fX11_mask g x0 x1 x2 = some r) (hk : Q (q_rV r.1) r.2) : ps_Ok mX11_mask (d + 7) [.ref x0, .int x1, .int x2] g Q := by
  unfold fX11_mask at h
  refine sX11_mask_0 ?_
  replace h := q_tc_e h
  rcases h with ⟨E, g2, hv, rfl⟩ | ⟨v1, g2, hv, h⟩
  · exact rX11_range hv ⟨rfl, hk⟩
  refine rX11_range hv ?_
  replace h := q_be h
  obtain ⟨u3, hv, h⟩ := h
  replace hv := q_ob_e hv
  obtain ⟨_, cu3⟩ := hv
  refine ⟨⟨some _, rfl⟩, ⟨_, cu3⟩, ?_⟩
  replace h := q_tc_e h
  rcases h with ⟨E, g5, hv, rfl⟩ | ⟨v4, g5, hv, h⟩
  · exact rX11_known hv hk
  refine rX11_known hv ?_
  refine ⟨_, _, rfl, by decide, ?_⟩
  refine And.intro (fun hc6 => ?_) (fun hc6 => ?_)
  · replace h := q_ifp (hc6) h
    exact ps_weak (pjX11_mask_32 h hk) ⟨(by first | rfl | (cases v4 <;> rfl)), (by first | rfl | (cases v4 <;> rfl)), (by first | rfl | (cases v4 <;> rfl)), trivial⟩
  · replace h := q_ifn (hc6) h
    replace h := q_be h
    obtain ⟨a55, ea55, h⟩ := h
    subst ea55
    replace h := q_be h
    obtain ⟨v56, hv, h⟩ := h
    replace hv := q_fR_e hv
    obtain ⟨_, cv56, dv56⟩ := hv
    replace h := q_be h
    obtain ⟨a57, ea57, h⟩ := h
    subst ea57
    replace h := q_be h
    obtain ⟨v58, hv, h⟩ := h
    replace hv := q_len_e hv
    obtain ⟨_, _, cv58, qv58, yv58⟩ := hv
    refine ⟨⟨some _, rfl⟩, _, _, cv56, dv56, _, _, cv58, qv58, _, yv58, ?_⟩
    refine And.intro (fun hc59 => ?_) (fun hc59 => ?_)
    · replace h := q_ifp (hc59) h
      exact ps_weak (pjX11_mask_32 h hk) ⟨rfl, rfl, rfl, trivial⟩
    · replace h := q_ifn (hc59) h
      exact ps_weak (pjX11_mask_33 h hk) ⟨rfl, rfl, rfl, trivial⟩
def fX5_leastAmount (x0 : Int32) : Int32 := (if ¬ x0 = 0 then (if ¬ (x0 = (5 : Int32)) ∧ (¬ x0 = (7 : Int32)) then (0 : Int32) else (2 : Int32)) else (1 : Int32))
theorem rX5_leastAmount {d : Nat} {Q : ps_Rs → ps_G → Prop} {g : ps_G} {x0 : Int32} {r : Int32} (h : fX5_leastAmount x0 = r) (hk : Q (.inl (some (.int r))) g) : ps_Ok mX5_leastAmount d [.int x0] g Q := by
  unfold fX5_leastAmount at h
  refine sX5_leastAmount_0 ?_
  have kJ3 : ∀ w2 : Int32, w2 = (if ¬ x0 = 0 then (if ¬ (x0 = (5 : Int32)) ∧ (¬ x0 = (7 : Int32)) then (0 : Int32) else (2 : Int32)) else (1 : Int32)) → ps_At mX5_leastAmount d 24 [] [.int w2] g Q := by
    rintro _ rfl
    refine sX5_leastAmount_24 ?_
    subst h
    exact ⟨rfl, hk⟩
  refine And.intro (fun hc1 => ?_) (fun hc1 => ?_)
  · refine sX5_leastAmount_8 ?_
    have kJ7 : ∀ w6 : Int32, w6 = (if ¬ (x0 = (5 : Int32)) ∧ (¬ x0 = (7 : Int32)) then (0 : Int32) else (2 : Int32)) → ps_At mX5_leastAmount d 24 [] [.int w6] g Q := by
      rintro _ rfl
      exact ps_weak (kJ3 _ (if_pos (hc1)).symm) trivial
    refine And.intro (fun hc4 => ?_) (fun hc4 => ?_)
    · refine sX5_leastAmount_19 ?_
      exact ps_weak (kJ7 _ (if_neg (fun z => z.1 hc4)).symm) trivial
    · refine And.intro (fun hc5 => ?_) (fun hc5 => ?_)
      · refine sX5_leastAmount_23 ?_
        exact ps_weak (kJ7 _ (if_pos (⟨hc4, hc5⟩)).symm) trivial
      · refine sX5_leastAmount_19 ?_
        exact ps_weak (kJ7 _ (if_neg (fun z => hc5 z.2)).symm) trivial
  · exact ps_weak (kJ3 _ (if_neg (hc1)).symm) trivial
def fX5_greatestAmount (x0 : Int32) : Int32 := if x0 = 0 then ((4 : Int32)) else (if x0 = 1 ∨ x0 = 6 ∨ x0 = 9 ∨ x0 = 12 ∨ x0 = 13 then ((255 : Int32)) else (if x0 = 5 then ((8 : Int32)) else (if x0 = 7 then ((64 : Int32)) else ((0 : Int32)))))
theorem rX5_greatestAmount {d : Nat} {Q : ps_Rs → ps_G → Prop} {g : ps_G} {x0 : Int32} {r : Int32} (h : fX5_greatestAmount x0 = r) (hk : Q (.inl (some (.int r))) g) : ps_Ok mX5_greatestAmount d [.int x0] g Q := by
  unfold fX5_greatestAmount at h
  refine sX5_greatestAmount_0 ?_
  refine sX5_greatestAmount_1 ?_
  by_cases hc1 : x0 = 0
  · replace h := q_ifp hc1 h
    have eT : ps_tsel 1 83 0 13 #[71, 79, 83, 83, 83, 73, 79, 76, 83, 79, 83, 83, 79, 79] x0 = 72 := by
      rw [hc1]; decide +kernel
    refine ps_at_eq eT ?_
    refine sX5_greatestAmount_72 ?_
    subst h
    exact ⟨rfl, hk⟩
  replace h := q_ifn hc1 h
  by_cases hc2 : x0 = 1 ∨ x0 = 6 ∨ x0 = 9 ∨ x0 = 12 ∨ x0 = 13
  · replace h := q_ifp hc2 h
    have eT : ps_tsel 1 83 0 13 #[71, 79, 83, 83, 83, 73, 79, 76, 83, 79, 83, 83, 79, 79] x0 = 80 := by
      rcases hc2 with e9 | e9 | e9 | e9 | e9 <;> (rw [e9]; decide +kernel)
    refine ps_at_eq eT ?_
    refine sX5_greatestAmount_80 ?_
    subst h
    exact ⟨rfl, hk⟩
  replace h := q_ifn hc2 h
  by_cases hc3 : x0 = 5
  · replace h := q_ifp hc3 h
    have eT : ps_tsel 1 83 0 13 #[71, 79, 83, 83, 83, 73, 79, 76, 83, 79, 83, 83, 79, 79] x0 = 74 := by
      rw [hc3]; decide +kernel
    refine ps_at_eq eT ?_
    refine sX5_greatestAmount_74 ?_
    subst h
    exact ⟨rfl, hk⟩
  replace h := q_ifn hc3 h
  by_cases hc4 : x0 = 7
  · replace h := q_ifp hc4 h
    have eT : ps_tsel 1 83 0 13 #[71, 79, 83, 83, 83, 73, 79, 76, 83, 79, 83, 83, 79, 79] x0 = 77 := by
      rw [hc4]; decide +kernel
    refine ps_at_eq eT ?_
    refine sX5_greatestAmount_77 ?_
    subst h
    exact ⟨rfl, hk⟩
  replace h := q_ifn hc4 h
  have eD : ps_tsel 1 83 0 13 #[71, 79, 83, 83, 83, 73, 79, 76, 83, 79, 83, 83, 79, 79] x0 = 84 := by
    refine q_tsd (by decide +kernel) (fun z h1 h2 => ?_)
    have hz : z = 0 ∨ z = 1 ∨ z = 2 ∨ z = 3 ∨ z = 4 ∨ z = 5 ∨ z = 6 ∨ z = 7 ∨ z = 8 ∨ z = 9 ∨ z = 10 ∨ z = 11 ∨ z = 12 ∨ z = 13 := by omega
    rcases hz with rfl | rfl | rfl | rfl | rfl | rfl | rfl | rfl | rfl | rfl | rfl | rfl | rfl | rfl
    · exact Or.inl (q_tsx (v := 0) (fun z => hc1 z))
    · exact Or.inl (q_tsx (v := 1) (fun z => hc2 (Or.inl z)))
    · exact Or.inr (by decide +kernel)
    · exact Or.inr (by decide +kernel)
    · exact Or.inr (by decide +kernel)
    · exact Or.inl (q_tsx (v := 5) (fun z => hc3 z))
    · exact Or.inl (q_tsx (v := 6) (fun z => hc2 ((fun z => (Or.inr (Or.inl z))) z)))
    · exact Or.inl (q_tsx (v := 7) (fun z => hc4 z))
    · exact Or.inr (by decide +kernel)
    · exact Or.inl (q_tsx (v := 9) (fun z => hc2 ((fun z => (Or.inr (Or.inr (Or.inl z)))) z)))
    · exact Or.inr (by decide +kernel)
    · exact Or.inr (by decide +kernel)
    · exact Or.inl (q_tsx (v := 12) (fun z => hc2 ((fun z => (Or.inr (Or.inr (Or.inr (Or.inl z))))) z)))
    · exact Or.inl (q_tsx (v := 13) (fun z => hc2 ((fun z => (Or.inr (Or.inr (Or.inr (Or.inr z))))) z)))
  refine ps_at_eq eD ?_
  refine sX5_greatestAmount_84 ?_
  subst h
  exact ⟨rfl, hk⟩
noncomputable def fX11_needFilter (g : ps_G) (x0 : Int32) (x1 : Int32) : Option ((String ⊕ Unit) × ps_G) := q_tc (fX11_range g x0 (0 : Int32) (13 : Int32)) fun v1 g2 => q_tc (fX11_range g2 x1 (fX5_leastAmount x0) (fX5_greatestAmount x0)) fun v3 g4 => some (.inr (), g4)
theorem rX11_needFilter {d : Nat} {Q : ps_Rs → ps_G → Prop} {g : ps_G} {x0 : Int32} {x1 : Int32} {r : (String ⊕ Unit) × ps_G} (h : fX11_needFilter g x0 x1 = some r) (hk : Q (q_rV r.1) r.2) : ps_Ok mX11_needFilter (d + 7) [.int x0, .int x1] g Q := by
  unfold fX11_needFilter at h
  refine sX11_needFilter_0 ?_
  replace h := q_tc_e h
  rcases h with ⟨E, g2, hv, rfl⟩ | ⟨v1, g2, hv, h⟩
  · exact rX11_range hv ⟨rfl, hk⟩
  refine rX11_range hv ?_
  refine rX5_leastAmount rfl ?_
  refine rX5_greatestAmount rfl ?_
  replace h := q_tc_e h
  rcases h with ⟨E, g4, hv, rfl⟩ | ⟨v3, g4, hv, h⟩
  · exact rX11_range hv ⟨rfl, hk⟩
  refine rX11_range hv ?_
  cases h
  exact ⟨rfl, rfl, hk⟩
noncomputable def jX11_colours_85 (g : ps_G) (x0 : Nat) (x5 : Option Nat) (k0 : Option Nat) (k1 : Int32) : Option ((String ⊕ Unit) × ps_G) := Option.bind (k0) fun a21 => Option.bind (q_sI 4 10 g a21 k1) fun g22 => Option.bind (x5) fun a23 => Option.bind (q_ob 11 g22 x0) fun u24 => Option.bind (fX11_replaceLayer g22 x0 a23) fun v25 => some (.inr (), v25)
theorem pjX11_colours_85 {d : Nat} {Q : ps_Rs → ps_G → Prop} {g : ps_G} {x0 : Nat} {x5 : Option Nat} {k0 : Option Nat} {k1 : Int32} {r : (String ⊕ Unit) × ps_G} (h : jX11_colours_85 g x0 x5 k0 k1 = some r) (hk : Q (q_rV r.1) r.2) : ps_At mX11_colours (d + 8) 85 [(0, .ref x0), (5, va_rf x5)] [.int k1, va_rf k0] g Q := by
  unfold jX11_colours_85 at h
  refine sX11_colours_85 ?_
  replace h := q_be h
  obtain ⟨a21, ea21, h⟩ := h
  subst ea21
  replace h := q_be h
  obtain ⟨g22, hv, h⟩ := h
  replace hv := q_sI_e hv
  obtain ⟨_, cg22, dg22, yg22⟩ := hv
  replace h := q_be h
  obtain ⟨a23, ea23, h⟩ := h
  subst ea23
  replace h := q_be h
  obtain ⟨u24, hv, h⟩ := h
  replace hv := q_ob_e hv
  obtain ⟨_, cu24⟩ := hv
  replace h := q_be h
  obtain ⟨v25, hv, h⟩ := h
  refine ⟨_, cg22, dg22, rfl, rfl, _, yg22, ⟨some _, rfl⟩, ⟨some _, rfl⟩, ⟨_, cu24⟩, ?_⟩
  refine rX11_replaceLayer hv ?_
  cases h
  exact ⟨rfl, rfl, hk⟩
noncomputable def jX11_colours_80 (g : ps_G) (x0 : Nat) (x3 : Int32) (x5 : Option Nat) (k0 : Option Nat) : Option ((String ⊕ Unit) × ps_G) := jX11_colours_85 g x0 x5 k0 x3
theorem pjX11_colours_80 {d : Nat} {Q : ps_Rs → ps_G → Prop} {g : ps_G} {x0 : Nat} {x3 : Int32} {x5 : Option Nat} {k0 : Option Nat} {r : (String ⊕ Unit) × ps_G} (h : jX11_colours_80 g x0 x3 x5 k0 = some r) (hk : Q (q_rV r.1) r.2) : ps_At mX11_colours (d + 8) 80 [(0, .ref x0), (3, .int x3), (5, va_rf x5)] [va_rf k0] g Q := by
  unfold jX11_colours_80 at h
  refine sX11_colours_80 ?_
  exact ps_weak (pjX11_colours_85 h hk) ⟨(by first | rfl | (cases x5 <;> rfl)), (by first | rfl | (cases x5 <;> rfl)), trivial⟩
noncomputable def jX11_colours_47 (g : ps_G) (x0 : Nat) (x2 : Int32) (x3 : Int32) (x4 : Option Nat) : Option ((String ⊕ Unit) × ps_G) := Option.bind (x4) fun a13 => Option.bind (q_ob 4 g a13) fun u14 => q_b2 (fX4_again g a13) fun v15 g16 => Option.bind (v15) fun a17 => Option.bind (q_sI 4 9 g16 a17 x2) fun g18 => Option.bind (q_fI 4 1 g18 a13) fun v19 => if v19 = (3 : Int32) then (jX11_colours_80 g18 x0 x3 (some a17) (some a17)) else (Option.bind (q_fI 4 1 g18 a13) fun v26 => if ¬ v26 = (5 : Int32) then (jX11_colours_85 g18 x0 (some a17) (some a17) (0 : Int32)) else (jX11_colours_80 g18 x0 x3 (some a17) (some a17)))
theorem pjX11_colours_47 {d : Nat} {Q : ps_Rs → ps_G → Prop} {g : ps_G} {x0 : Nat} {x2 : Int32} {x3 : Int32} {x4 : Option Nat} {r : (String ⊕ Unit) × ps_G} (h : jX11_colours_47 g x0 x2 x3 x4 = some r) (hk : Q (q_rV r.1) r.2) : ps_At mX11_colours (d + 8) 47 [(0, .ref x0), (2, .int x2), (3, .int x3), (4, va_rf x4)] [] g Q := by
  unfold jX11_colours_47 at h
  refine sX11_colours_47 ?_
  replace h := q_be h
  obtain ⟨a13, ea13, h⟩ := h
  subst ea13
  replace h := q_be h
  obtain ⟨u14, hv, h⟩ := h
  replace hv := q_ob_e hv
  obtain ⟨_, cu14⟩ := hv
  replace h := q_b2_e h
  obtain ⟨v15, g16, hv, h⟩ := h
  refine ⟨⟨some _, rfl⟩, ⟨_, cu14⟩, ?_⟩
  refine rX4_again hv ?_
  replace h := q_be h
  obtain ⟨a17, ea17, h⟩ := h
  subst ea17
  replace h := q_be h
  obtain ⟨g18, hv, h⟩ := h
  replace hv := q_sI_e hv
  obtain ⟨_, cg18, dg18, yg18⟩ := hv
  replace h := q_be h
  obtain ⟨v19, hv, h⟩ := h
  replace hv := q_fI_e hv
  obtain ⟨_, cv19, dv19⟩ := hv
  refine ⟨_, _, rfl, by decide, ⟨some _, rfl⟩, _, cg18, dg18, rfl, rfl, _, yg18, ⟨some _, rfl⟩, ⟨some _, rfl⟩, _, _, cv19, dv19, ?_⟩
  refine And.intro (fun hc20 => ?_) (fun hc20 => ?_)
  · replace h := q_ifp (hc20) h
    exact ps_weak (pjX11_colours_80 h hk) ⟨rfl, rfl, rfl, trivial⟩
  · replace h := q_ifn (hc20) h
    replace h := q_be h
    obtain ⟨v26, hv, h⟩ := h
    replace hv := q_fI_e hv
    obtain ⟨_, cv26, dv26⟩ := hv
    refine ⟨⟨some _, rfl⟩, _, _, cv26, dv26, ?_⟩
    refine And.intro (fun hc27 => ?_) (fun hc27 => ?_)
    · replace h := q_ifp (hc27) h
      refine sX11_colours_84 ?_
      exact ps_weak (pjX11_colours_85 h hk) ⟨rfl, rfl, trivial⟩
    · replace h := q_ifn (hc27) h
      exact ps_weak (pjX11_colours_80 h hk) ⟨rfl, rfl, rfl, trivial⟩
noncomputable def jX11_colours_33 (g : ps_G) (x0 : Nat) (x2 : Int32) (x3 : Int32) (x4 : Option Nat) : Option ((String ⊕ Unit) × ps_G) := Option.bind (x4) fun a10 => Option.bind (q_fI 4 1 g a10) fun v11 => if ¬ v11 = (5 : Int32) then (jX11_colours_47 g x0 x2 x3 (some a10)) else (q_tc (fX11_needFilter g x2 x3) fun v32 g33 => jX11_colours_47 g33 x0 x2 x3 (some a10))
theorem pjX11_colours_33 {d : Nat} {Q : ps_Rs → ps_G → Prop} {g : ps_G} {x0 : Nat} {x2 : Int32} {x3 : Int32} {x4 : Option Nat} {r : (String ⊕ Unit) × ps_G} (h : jX11_colours_33 g x0 x2 x3 x4 = some r) (hk : Q (q_rV r.1) r.2) : ps_At mX11_colours (d + 8) 33 [(0, .ref x0), (2, .int x2), (3, .int x3), (4, va_rf x4)] [] g Q := by
  unfold jX11_colours_33 at h
  refine sX11_colours_33 ?_
  replace h := q_be h
  obtain ⟨a10, ea10, h⟩ := h
  subst ea10
  replace h := q_be h
  obtain ⟨v11, hv, h⟩ := h
  replace hv := q_fI_e hv
  obtain ⟨_, cv11, dv11⟩ := hv
  refine ⟨⟨some _, rfl⟩, _, _, cv11, dv11, ?_⟩
  refine And.intro (fun hc12 => ?_) (fun hc12 => ?_)
  · replace h := q_ifp (hc12) h
    exact ps_weak (pjX11_colours_47 h hk) ⟨rfl, rfl, rfl, rfl, trivial⟩
  · replace h := q_ifn (hc12) h
    replace h := q_tc_e h
    rcases h with ⟨E, g33, hv, rfl⟩ | ⟨v32, g33, hv, h⟩
    · exact rX11_needFilter hv ⟨rfl, hk⟩
    refine rX11_needFilter hv ?_
    exact ps_weak (pjX11_colours_47 h hk) ⟨rfl, rfl, rfl, rfl, trivial⟩
noncomputable def fX11_colours (g : ps_G) (x0 : Nat) (x1 : Int32) (x2 : Int32) (x3 : Int32) : Option ((String ⊕ Unit) × ps_G) := Option.bind (q_ob 11 g x0) fun u1 => q_tc (fX11_known g x0 x1) fun v2 g3 => Option.bind (v2) fun a4 => Option.bind (q_fI 4 1 g3 a4) fun v5 => q_tc (fX11_range g3 v5 (2 : Int32) (5 : Int32)) fun v6 g7 => Option.bind (q_fI 4 1 g7 a4) fun v8 => if ¬ v8 = (4 : Int32) then (jX11_colours_33 g7 x0 x2 x3 (some a4)) else (q_tc (fX11_range g7 x2 (0 : Int32) (7 : Int32)) fun v36 g37 => jX11_colours_33 g37 x0 x2 x3 (some a4))
theorem rX11_colours {d : Nat} {Q : ps_Rs → ps_G → Prop} {g : ps_G} {x0 : Nat} {x1 : Int32} {x2 : Int32} {x3 : Int32} {r : (String ⊕ Unit) × ps_G} (h : fX11_colours g x0 x1 x2 x3 = some r) (hk : Q (q_rV r.1) r.2) : ps_Ok mX11_colours (d + 8) [.ref x0, .int x1, .int x2, .int x3] g Q := by
  unfold fX11_colours at h
  refine sX11_colours_0 ?_
  replace h := q_be h
  obtain ⟨u1, hv, h⟩ := h
  replace hv := q_ob_e hv
  obtain ⟨_, cu1⟩ := hv
  refine ⟨⟨some _, rfl⟩, ⟨_, cu1⟩, ?_⟩
  replace h := q_tc_e h
  rcases h with ⟨E, g3, hv, rfl⟩ | ⟨v2, g3, hv, h⟩
  · exact rX11_known hv hk
  refine rX11_known hv ?_
  replace h := q_be h
  obtain ⟨a4, ea4, h⟩ := h
  subst ea4
  replace h := q_be h
  obtain ⟨v5, hv, h⟩ := h
  replace hv := q_fI_e hv
  obtain ⟨_, cv5, dv5⟩ := hv
  refine ⟨_, _, rfl, by decide, ⟨some _, rfl⟩, _, _, cv5, dv5, ?_⟩
  replace h := q_tc_e h
  rcases h with ⟨E, g7, hv, rfl⟩ | ⟨v6, g7, hv, h⟩
  · exact rX11_range hv ⟨rfl, hk⟩
  refine rX11_range hv ?_
  replace h := q_be h
  obtain ⟨v8, hv, h⟩ := h
  replace hv := q_fI_e hv
  obtain ⟨_, cv8, dv8⟩ := hv
  refine ⟨⟨some _, rfl⟩, _, _, cv8, dv8, ?_⟩
  refine And.intro (fun hc9 => ?_) (fun hc9 => ?_)
  · replace h := q_ifp (hc9) h
    exact ps_weak (pjX11_colours_33 h hk) ⟨rfl, rfl, rfl, rfl, trivial⟩
  · replace h := q_ifn (hc9) h
    replace h := q_tc_e h
    rcases h with ⟨E, g37, hv, rfl⟩ | ⟨v36, g37, hv, h⟩
    · exact rX11_range hv ⟨rfl, hk⟩
    refine rX11_range hv ?_
    exact ps_weak (pjX11_colours_33 h hk) ⟨rfl, rfl, rfl, rfl, trivial⟩
noncomputable def jX11_ramp_34 (g : ps_G) (x0 : Nat) (x1 : Int32) (x2 : Int32) (x3 : Int32) (x4 : Int32) (x5 : Int32) : Option ((String ⊕ Unit) × ps_G) := Option.bind (q_ob 11 g x0) fun u9 => q_tc (fX11_known g x0 x1) fun v10 g11 => Option.bind (v10) fun a12 => Option.bind (q_fI 4 1 g11 a12) fun v13 => q_tc (fX11_range g11 v13 (3 : Int32) (3 : Int32)) fun v14 g15 => Option.bind (q_ob 4 g15 a12) fun u16 => q_b2 (fX4_again g15 a12) fun v17 g18 => Option.bind (v17) fun a19 => Option.bind (q_sI 4 11 g18 a19 x2) fun g20 => Option.bind (q_sI 4 12 g20 a19 x3) fun g21 => Option.bind (q_sI 4 13 g21 a19 x4) fun g22 => Option.bind (q_sI 4 14 g22 a19 x5) fun g23 => Option.bind (q_ob 11 g23 x0) fun u24 => Option.bind (fX11_replaceLayer g23 x0 a19) fun v25 => some (.inr (), v25)
theorem pjX11_ramp_34 {d : Nat} {Q : ps_Rs → ps_G → Prop} {g : ps_G} {x0 : Nat} {x1 : Int32} {x2 : Int32} {x3 : Int32} {x4 : Int32} {x5 : Int32} {r : (String ⊕ Unit) × ps_G} (h : jX11_ramp_34 g x0 x1 x2 x3 x4 x5 = some r) (hk : Q (q_rV r.1) r.2) : ps_At mX11_ramp (d + 7) 34 [(0, .ref x0), (1, .int x1), (2, .int x2), (3, .int x3), (4, .int x4), (5, .int x5)] [] g Q := by
  unfold jX11_ramp_34 at h
  refine sX11_ramp_34 ?_
  replace h := q_be h
  obtain ⟨u9, hv, h⟩ := h
  replace hv := q_ob_e hv
  obtain ⟨_, cu9⟩ := hv
  refine ⟨⟨some _, rfl⟩, ⟨_, cu9⟩, ?_⟩
  replace h := q_tc_e h
  rcases h with ⟨E, g11, hv, rfl⟩ | ⟨v10, g11, hv, h⟩
  · exact rX11_known hv hk
  refine rX11_known hv ?_
  replace h := q_be h
  obtain ⟨a12, ea12, h⟩ := h
  subst ea12
  replace h := q_be h
  obtain ⟨v13, hv, h⟩ := h
  replace hv := q_fI_e hv
  obtain ⟨_, cv13, dv13⟩ := hv
  refine ⟨_, _, rfl, by decide, ⟨some _, rfl⟩, _, _, cv13, dv13, ?_⟩
  replace h := q_tc_e h
  rcases h with ⟨E, g15, hv, rfl⟩ | ⟨v14, g15, hv, h⟩
  · exact rX11_range hv ⟨rfl, hk⟩
  refine rX11_range hv ?_
  replace h := q_be h
  obtain ⟨u16, hv, h⟩ := h
  replace hv := q_ob_e hv
  obtain ⟨_, cu16⟩ := hv
  replace h := q_b2_e h
  obtain ⟨v17, g18, hv, h⟩ := h
  refine ⟨⟨some _, rfl⟩, ⟨_, cu16⟩, ?_⟩
  refine rX4_again hv ?_
  replace h := q_be h
  obtain ⟨a19, ea19, h⟩ := h
  subst ea19
  replace h := q_be h
  obtain ⟨g20, hv, h⟩ := h
  replace hv := q_sI_e hv
  obtain ⟨_, cg20, dg20, yg20⟩ := hv
  replace h := q_be h
  obtain ⟨g21, hv, h⟩ := h
  replace hv := q_sI_e hv
  obtain ⟨_, cg21, dg21, yg21⟩ := hv
  replace h := q_be h
  obtain ⟨g22, hv, h⟩ := h
  replace hv := q_sI_e hv
  obtain ⟨_, cg22, dg22, yg22⟩ := hv
  replace h := q_be h
  obtain ⟨g23, hv, h⟩ := h
  replace hv := q_sI_e hv
  obtain ⟨_, cg23, dg23, yg23⟩ := hv
  replace h := q_be h
  obtain ⟨u24, hv, h⟩ := h
  replace hv := q_ob_e hv
  obtain ⟨_, cu24⟩ := hv
  replace h := q_be h
  obtain ⟨v25, hv, h⟩ := h
  refine ⟨_, _, rfl, by decide, ⟨some _, rfl⟩, _, cg20, dg20, rfl, rfl, _, yg20, ⟨some _, rfl⟩, _, cg21, dg21, rfl, rfl, _, yg21, ⟨some _, rfl⟩, _, cg22, dg22, rfl, rfl, _, yg22, ⟨some _, rfl⟩, _, cg23, dg23, rfl, rfl, _, yg23, ⟨some _, rfl⟩, ⟨some _, rfl⟩, ⟨_, cu24⟩, ?_⟩
  refine rX11_replaceLayer hv ?_
  cases h
  exact ⟨rfl, rfl, hk⟩
noncomputable def fX11_ramp (g : ps_G) (x0 : Nat) (x1 : Int32) (x2 : Int32) (x3 : Int32) (x4 : Int32) (x5 : Int32) : Option ((String ⊕ Unit) × ps_G) := q_tc (fX11_range g x2 (-100 : Int32) (100 : Int32)) fun v1 g2 => q_tc (fX11_range g2 x3 (-100 : Int32) (100 : Int32)) fun v3 g4 => q_tc (fX11_range g4 x4 (-100 : Int32) (100 : Int32)) fun v5 g6 => q_tc (fX11_range g6 x5 (-100 : Int32) (100 : Int32)) fun v7 g8 => jX11_ramp_34 g8 x0 x1 x2 x3 x4 x5
theorem rX11_ramp {d : Nat} {Q : ps_Rs → ps_G → Prop} {g : ps_G} {x0 : Nat} {x1 : Int32} {x2 : Int32} {x3 : Int32} {x4 : Int32} {x5 : Int32} {r : (String ⊕ Unit) × ps_G} (h : fX11_ramp g x0 x1 x2 x3 x4 x5 = some r) (hk : Q (q_rV r.1) r.2) : ps_Ok mX11_ramp (d + 7) [.ref x0, .int x1, .int x2, .int x3, .int x4, .int x5] g Q := by
  unfold fX11_ramp at h
  refine sX11_ramp_0 ?_
  replace h := q_tc_e h
  rcases h with ⟨E, g2, hv, rfl⟩ | ⟨v1, g2, hv, h⟩
  · exact rX11_range hv ⟨rfl, hk⟩
  refine rX11_range hv ?_
  replace h := q_tc_e h
  rcases h with ⟨E, g4, hv, rfl⟩ | ⟨v3, g4, hv, h⟩
  · exact rX11_range hv ⟨rfl, hk⟩
  refine rX11_range hv ?_
  replace h := q_tc_e h
  rcases h with ⟨E, g6, hv, rfl⟩ | ⟨v5, g6, hv, h⟩
  · exact rX11_range hv ⟨rfl, hk⟩
  refine rX11_range hv ?_
  replace h := q_tc_e h
  rcases h with ⟨E, g8, hv, rfl⟩ | ⟨v7, g8, hv, h⟩
  · exact rX11_range hv ⟨rfl, hk⟩
  refine rX11_range hv ?_
  exact ps_weak (pjX11_ramp_34 h hk) ⟨rfl, rfl, rfl, rfl, rfl, rfl, trivial⟩
noncomputable def fX11_knownPixels (g : ps_G) (x0 : Nat) (x1 : Int32) : Option ((String ⊕ Option Nat) × ps_G) := Option.bind (q_ob 11 g x0) fun u1 => q_tc (fX11_known g x0 x1) fun v2 g3 => Option.bind (v2) fun a4 => Option.bind (q_fI 4 1 g3 a4) fun v5 => if ¬ v5 = 0 then (some (.inl "java/lang/IllegalArgumentException", ps_nw g3 6 ps_e0)) else (Option.bind (q_fR 4 15 g3 a4) fun v7 => Option.bind (v7) fun a8 => Option.bind (q_len g3 a8) fun v9 => if v9 = (576 : Int32) then (some (.inr (some a4), g3)) else (some (.inl "java/lang/IllegalArgumentException", ps_nw g3 6 ps_e0)))
theorem rX11_knownPixels {d : Nat} {Q : ps_Rs → ps_G → Prop} {g : ps_G} {x0 : Nat} {x1 : Int32} {r : (String ⊕ Option Nat) × ps_G} (h : fX11_knownPixels g x0 x1 = some r) (hk : Q (q_rA r.1) r.2) : ps_Ok mX11_knownPixels (d + 7) [.ref x0, .int x1] g Q := by
  unfold fX11_knownPixels at h
  refine sX11_knownPixels_0 ?_
  replace h := q_be h
  obtain ⟨u1, hv, h⟩ := h
  replace hv := q_ob_e hv
  obtain ⟨_, cu1⟩ := hv
  refine ⟨⟨some _, rfl⟩, ⟨_, cu1⟩, ?_⟩
  replace h := q_tc_e h
  rcases h with ⟨E, g3, hv, rfl⟩ | ⟨v2, g3, hv, h⟩
  · exact rX11_known hv hk
  refine rX11_known hv ?_
  replace h := q_be h
  obtain ⟨a4, ea4, h⟩ := h
  subst ea4
  replace h := q_be h
  obtain ⟨v5, hv, h⟩ := h
  replace hv := q_fI_e hv
  obtain ⟨_, cv5, dv5⟩ := hv
  refine ⟨_, _, rfl, by decide, ⟨some _, rfl⟩, _, _, cv5, dv5, ?_⟩
  refine And.intro (fun hc6 => ?_) (fun hc6 => ?_)
  · replace h := q_ifp (hc6) h
    cases h
    exact sX11_knownPixels_24 (by decide) hk
  · replace h := q_ifn (hc6) h
    replace h := q_be h
    obtain ⟨v7, hv, h⟩ := h
    replace hv := q_fR_e hv
    obtain ⟨_, cv7, dv7⟩ := hv
    replace h := q_be h
    obtain ⟨a8, ea8, h⟩ := h
    subst ea8
    replace h := q_be h
    obtain ⟨v9, hv, h⟩ := h
    replace hv := q_len_e hv
    obtain ⟨_, _, cv9, qv9, yv9⟩ := hv
    refine ⟨⟨some _, rfl⟩, _, _, cv7, dv7, _, _, cv9, qv9, _, yv9, ?_⟩
    refine And.intro (fun hc10 => ?_) (fun hc10 => ?_)
    · replace h := q_ifp (hc10) h
      refine sX11_knownPixels_34 ?_
      cases h
      exact ⟨⟨some _, rfl⟩, some _, _, rfl, rfl, ⟨_, rfl, Or.inl ⟨_, rfl⟩⟩, hk⟩
    · replace h := q_ifn (hc10) h
      cases h
      exact sX11_knownPixels_24 (by decide) hk
noncomputable def fX11_replacePixels (g : ps_G) (x0 : Nat) (x1 : Nat) (x2 : Nat) : Option (ps_G) := Option.bind (q_ob 4 g x1) fun u1 => q_b2 (fX4_again g x1) fun v2 g3 => Option.bind (v2) fun a4 => Option.bind (q_sR 4 15 g3 a4 (some x2)) fun g5 => Option.bind (q_ob 11 g5 x0) fun u6 => Option.bind (fX11_replaceLayer g5 x0 a4) fun v7 => some v7
theorem rX11_replacePixels {d : Nat} {Q : ps_Rs → ps_G → Prop} {g : ps_G} {x0 : Nat} {x1 : Nat} {x2 : Nat} {r : ps_G} (h : fX11_replacePixels g x0 x1 x2 = some r) (hk : Q (.inl none) r) : ps_Ok mX11_replacePixels (d + 4) [.ref x0, .ref x1, .ref x2] g Q := by
  unfold fX11_replacePixels at h
  refine sX11_replacePixels_0 ?_
  replace h := q_be h
  obtain ⟨u1, hv, h⟩ := h
  replace hv := q_ob_e hv
  obtain ⟨_, cu1⟩ := hv
  replace h := q_b2_e h
  obtain ⟨v2, g3, hv, h⟩ := h
  refine ⟨⟨some _, rfl⟩, ⟨_, cu1⟩, ?_⟩
  refine rX4_again hv ?_
  replace h := q_be h
  obtain ⟨a4, ea4, h⟩ := h
  subst ea4
  replace h := q_be h
  obtain ⟨g5, hv, h⟩ := h
  replace hv := q_sR_e hv
  obtain ⟨_, cg5, dg5, yg5⟩ := hv
  replace h := q_be h
  obtain ⟨u6, hv, h⟩ := h
  replace hv := q_ob_e hv
  obtain ⟨_, cu6⟩ := hv
  replace h := q_be h
  obtain ⟨v7, hv, h⟩ := h
  refine ⟨_, _, rfl, by decide, ⟨some _, rfl⟩, ⟨some _, rfl⟩, _, cg5, dg5, rfl, rfl, _, yg5, ⟨some _, rfl⟩, ⟨some _, rfl⟩, ⟨_, cu6⟩, ?_⟩
  refine rX11_replaceLayer hv ?_
  cases h
  exact ⟨rfl, rfl, hk⟩
noncomputable def jX11_turn_148_70 (g : ps_G) (x0 : Nat) (x2 : Int32) (x3 : Option Nat) (x4 : Int32) (x5 : Int32) (x6 : Nat) (x7 : Int32) (x8 : Int32) (k0 : Nat) (k1 : Int32) (k2 : Int32) : Option ((Int32 × ps_G) ⊕ (ps_G)) := Option.bind (q_wI g k0 k1 k2) fun g32 => some (.inl (x8 + (1 : Int32), g32))
theorem pjX11_turn_148_70 {d : Nat} {Q : ps_Rs → ps_G → Prop} {g : ps_G} {x0 : Nat} {x2 : Int32} {x3 : Option Nat} {x4 : Int32} {x5 : Int32} {x6 : Nat} {x7 : Int32} {x8 : Int32} {k0 : Nat} {k1 : Int32} {k2 : Int32} {x : (Int32 × ps_G) ⊕ (ps_G)} (h : jX11_turn_148_70 g x0 x2 x3 x4 x5 x6 x7 x8 k0 k1 k2 = some x) (hh : ∀ s' : Int32 × ps_G, x = .inl s' → ps_At mX11_turn (d + 8) 70 [(0, .ref x0), (2, .int x2), (3, va_rf x3), (4, .int x4), (5, .int x5), (6, .ref x6), (7, .int x7), (8, .int s'.1)] [] s'.2 Q) (he : ∀ r' : ps_G, x = .inr r' → ps_At mX11_turn (d + 8) 155 [(0, .ref x0), (2, .int x2), (3, va_rf x3), (4, .int x4), (5, .int x5), (6, .ref x6), (7, .int x7)] [] r' Q) : ps_At mX11_turn (d + 8) 148 [(0, .ref x0), (2, .int x2), (3, va_rf x3), (4, .int x4), (5, .int x5), (6, .ref x6), (7, .int x7), (8, .int x8)] [.int k2, .int k1, .ref k0] g Q := by
  unfold jX11_turn_148_70 at h
  refine sX11_turn_148 ?_
  replace h := q_be h
  obtain ⟨g32, hv, h⟩ := h
  replace hv := q_wI_e hv
  obtain ⟨_, _, cg32, pg32, ig32, yg32⟩ := hv
  refine ⟨_, _, cg32, pg32, ig32, _, yg32, by decide, ?_⟩
  exact ps_weak (hh (x8 + (1 : Int32), g32) (Option.some.inj h).symm) ⟨(by first | rfl | (cases x3 <;> rfl)), (by first | rfl | (cases x3 <;> rfl)), (by first | rfl | (cases x3 <;> rfl)), (by first | rfl | (cases x3 <;> rfl)), (by first | rfl | (cases x3 <;> rfl)), (by first | rfl | (cases x3 <;> rfl)), (by first | rfl | (cases x3 <;> rfl)), (by first | rfl | (cases x3 <;> rfl)), trivial⟩
noncomputable def bX11_turn_70 (x0 : Nat) (x2 : Int32) (x3 : Option Nat) (x4 : Int32) (x5 : Int32) (x6 : Nat) (x7 : Int32) (x8 : Int32) (g : ps_G) : Option ((Int32 × ps_G) ⊕ (ps_G)) := if x4 ≤ x8 then (some (.inr g)) else (if ¬ x2 = 0 then (if ¬ x2 = (1 : Int32) then (Option.bind (x3) fun a29 => Option.bind (q_ob 4 g a29) fun u30 => Option.bind (fX4_own g a29 x7 x8 x4 x5) fun v31 => jX11_turn_148_70 g x0 x2 (some a29) x4 x5 x6 x7 x8 x6 ((x7 * x4) + x8) v31) else (Option.bind (x3) fun a33 => Option.bind (q_ob 4 g a33) fun u34 => Option.bind (fX4_own g a33 x8 ((x5 - (1 : Int32)) - x7) x4 x5) fun v35 => jX11_turn_148_70 g x0 x2 (some a33) x4 x5 x6 x7 x8 x6 ((x7 * x4) + x8) v35)) else (Option.bind (x3) fun a38 => Option.bind (q_ob 4 g a38) fun u39 => Option.bind (fX4_own g a38 ((x4 - (1 : Int32)) - x8) x7 x4 x5) fun v40 => jX11_turn_148_70 g x0 x2 (some a38) x4 x5 x6 x7 x8 x6 ((x7 * x4) + x8) v40))
theorem pbX11_turn_70 {d : Nat} {Q : ps_Rs → ps_G → Prop}  {x0 : Nat} {x2 : Int32} {x3 : Option Nat} {x4 : Int32} {x5 : Int32} {x6 : Nat} {x7 : Int32} {x8 : Int32} {g : ps_G} {x : (Int32 × ps_G) ⊕ (ps_G)} (h : bX11_turn_70 x0 x2 x3 x4 x5 x6 x7 x8 g = some x) (hh : ∀ s' : Int32 × ps_G, x = .inl s' → ps_At mX11_turn (d + 8) 70 [(0, .ref x0), (2, .int x2), (3, va_rf x3), (4, .int x4), (5, .int x5), (6, .ref x6), (7, .int x7), (8, .int s'.1)] [] s'.2 Q) (he : ∀ r' : ps_G, x = .inr r' → ps_At mX11_turn (d + 8) 155 [(0, .ref x0), (2, .int x2), (3, va_rf x3), (4, .int x4), (5, .int x5), (6, .ref x6), (7, .int x7)] [] r' Q) : ps_At mX11_turn (d + 8) 70 [(0, .ref x0), (2, .int x2), (3, va_rf x3), (4, .int x4), (5, .int x5), (6, .ref x6), (7, .int x7), (8, .int x8)] [] g Q := by
  unfold bX11_turn_70 at h
  refine sX11_turn_70 ?_
  refine And.intro (fun hc20 => ?_) (fun hc20 => ?_)
  · replace h := q_ifp (hc20) h
    exact ps_weak (he g (Option.some.inj h).symm) ⟨(by first | rfl | (cases x3 <;> rfl)), (by first | rfl | (cases x3 <;> rfl)), (by first | rfl | (cases x3 <;> rfl)), (by first | rfl | (cases x3 <;> rfl)), (by first | rfl | (cases x3 <;> rfl)), (by first | rfl | (cases x3 <;> rfl)), (by first | rfl | (cases x3 <;> rfl)), trivial⟩
  · replace h := q_ifn (hc20) h
    refine ⟨⟨some _, rfl⟩, ?_⟩
    refine And.intro (fun hc24 => ?_) (fun hc24 => ?_)
    · replace h := q_ifp (hc24) h
      refine sX11_turn_111 ?_
      refine And.intro (fun hc27 => ?_) (fun hc27 => ?_)
      · replace h := q_ifp (hc27) h
        refine sX11_turn_136 ?_
        replace h := q_be h
        obtain ⟨a29, ea29, h⟩ := h
        subst ea29
        replace h := q_be h
        obtain ⟨u30, hv, h⟩ := h
        replace hv := q_ob_e hv
        obtain ⟨_, cu30⟩ := hv
        replace h := q_be h
        obtain ⟨v31, hv, h⟩ := h
        refine ⟨⟨some _, rfl⟩, ⟨_, cu30⟩, ?_⟩
        refine rX4_own hv ?_
        exact ps_weak (pjX11_turn_148_70 h hh he) ⟨rfl, rfl, rfl, rfl, rfl, rfl, rfl, rfl, trivial⟩
      · replace h := q_ifn (hc27) h
        replace h := q_be h
        obtain ⟨a33, ea33, h⟩ := h
        subst ea33
        replace h := q_be h
        obtain ⟨u34, hv, h⟩ := h
        replace hv := q_ob_e hv
        obtain ⟨_, cu34⟩ := hv
        replace h := q_be h
        obtain ⟨v35, hv, h⟩ := h
        refine ⟨⟨some _, rfl⟩, ⟨_, cu34⟩, ?_⟩
        refine rX4_own hv ?_
        exact ps_weak (pjX11_turn_148_70 h hh he) ⟨rfl, rfl, rfl, rfl, rfl, rfl, rfl, rfl, trivial⟩
    · replace h := q_ifn (hc24) h
      replace h := q_be h
      obtain ⟨a38, ea38, h⟩ := h
      subst ea38
      replace h := q_be h
      obtain ⟨u39, hv, h⟩ := h
      replace hv := q_ob_e hv
      obtain ⟨_, cu39⟩ := hv
      replace h := q_be h
      obtain ⟨v40, hv, h⟩ := h
      refine ⟨⟨some _, rfl⟩, ⟨_, cu39⟩, ?_⟩
      refine rX4_own hv ?_
      exact ps_weak (pjX11_turn_148_70 h hh he) ⟨rfl, rfl, rfl, rfl, rfl, rfl, rfl, rfl, trivial⟩
noncomputable def bX11_turn_60 (x0 : Nat) (x2 : Int32) (x3 : Option Nat) (x4 : Int32) (x5 : Int32) (x6 : Nat) (x7 : Int32) (g : ps_G) : Option ((Int32 × ps_G) ⊕ (ps_G)) := if x5 ≤ x7 then (some (.inr g)) else (Option.bind (q_lp (fun s => bX11_turn_70 x0 x2 x3 x4 x5 x6 x7 s.1 s.2) ((0 : Int32), g)) fun s45 => some (.inl (x7 + (1 : Int32), s45)))
theorem pbX11_turn_60 {d : Nat} {Q : ps_Rs → ps_G → Prop}  {x0 : Nat} {x2 : Int32} {x3 : Option Nat} {x4 : Int32} {x5 : Int32} {x6 : Nat} {x7 : Int32} {g : ps_G} {x : (Int32 × ps_G) ⊕ (ps_G)} (h : bX11_turn_60 x0 x2 x3 x4 x5 x6 x7 g = some x) (hh : ∀ s' : Int32 × ps_G, x = .inl s' → ps_At mX11_turn (d + 8) 60 [(0, .ref x0), (2, .int x2), (3, va_rf x3), (4, .int x4), (5, .int x5), (6, .ref x6), (7, .int s'.1)] [] s'.2 Q) (he : ∀ r' : ps_G, x = .inr r' → ps_At mX11_turn (d + 8) 161 [(0, .ref x0), (3, va_rf x3), (6, .ref x6)] [] r' Q) : ps_At mX11_turn (d + 8) 60 [(0, .ref x0), (2, .int x2), (3, va_rf x3), (4, .int x4), (5, .int x5), (6, .ref x6), (7, .int x7)] [] g Q := by
  unfold bX11_turn_60 at h
  refine sX11_turn_60 ?_
  refine And.intro (fun hc19 => ?_) (fun hc19 => ?_)
  · replace h := q_ifp (hc19) h
    exact ps_weak (he g (Option.some.inj h).symm) ⟨(by first | rfl | (cases x3 <;> rfl)), (by first | rfl | (cases x3 <;> rfl)), (by first | rfl | (cases x3 <;> rfl)), trivial⟩
  · replace h := q_ifn (hc19) h
    refine ⟨by decide, ?_⟩
    replace h := q_be h
    obtain ⟨s45, hl, h⟩ := h
    refine ps_weak (q_lp_ok hl (fun s => ps_At mX11_turn (d + 8) 70 [(0, .ref x0), (2, .int x2), (3, va_rf x3), (4, .int x4), (5, .int x5), (6, .ref x6), (7, .int x7), (8, .int s.1)] [] s.2 Q) (fun r => ps_At mX11_turn (d + 8) 155 [(0, .ref x0), (2, .int x2), (3, va_rf x3), (4, .int x4), (5, .int x5), (6, .ref x6), (7, .int x7)] [] r Q) (fun s x hb hh he => pbX11_turn_70 hb hh he) ?_) ⟨(by first | rfl | (cases x3 <;> rfl)), (by first | rfl | (cases x3 <;> rfl)), (by first | rfl | (cases x3 <;> rfl)), (by first | rfl | (cases x3 <;> rfl)), (by first | rfl | (cases x3 <;> rfl)), (by first | rfl | (cases x3 <;> rfl)), (by first | rfl | (cases x3 <;> rfl)), (by first | rfl | (cases x3 <;> rfl)), trivial⟩
    refine (?_ : ps_At mX11_turn (d + 8) 155 [(0, .ref x0), (2, .int x2), (3, va_rf x3), (4, .int x4), (5, .int x5), (6, .ref x6), (7, .int x7)] [] s45 Q)
    refine sX11_turn_155 ?_
    refine ⟨by decide, ?_⟩
    exact ps_weak (hh (x7 + (1 : Int32), s45) (Option.some.inj h).symm) ⟨(by first | rfl | (cases x3 <;> rfl)), (by first | rfl | (cases x3 <;> rfl)), (by first | rfl | (cases x3 <;> rfl)), (by first | rfl | (cases x3 <;> rfl)), (by first | rfl | (cases x3 <;> rfl)), (by first | rfl | (cases x3 <;> rfl)), (by first | rfl | (cases x3 <;> rfl)), trivial⟩
noncomputable def jX11_turn_21 (g : ps_G) (x0 : Nat) (x2 : Int32) (x3 : Option Nat) (x4 : Int32) : Option ((String ⊕ Unit) × ps_G) := Option.bind (q_fR 11 0 g x0) fun v9 => Option.bind (v9) fun a10 => Option.bind (q_fI 9 1 g a10) fun v11 => q_tc (fX11_refuse g (if (¬ x2 = (2 : Int32)) ∨ (x4 = v11) then (0 : Int32) else (1 : Int32))) fun v16 g17 => Option.bind (q_nA .int g17 (576 : Int32)) fun g18 => Option.bind (q_lp (fun s => bX11_turn_60 x0 x2 x3 x4 v11 g17.1 s.1 s.2) ((0 : Int32), g18)) fun s48 => Option.bind (x3) fun a49 => Option.bind (q_ob 11 s48 x0) fun u50 => Option.bind (fX11_replacePixels s48 x0 a49 g17.1) fun v51 => some (.inr (), v51)
theorem pjX11_turn_21 {d : Nat} {Q : ps_Rs → ps_G → Prop} {g : ps_G} {x0 : Nat} {x2 : Int32} {x3 : Option Nat} {x4 : Int32} {r : (String ⊕ Unit) × ps_G} (h : jX11_turn_21 g x0 x2 x3 x4 = some r) (hk : Q (q_rV r.1) r.2) : ps_At mX11_turn (d + 8) 21 [(0, .ref x0), (2, .int x2), (3, va_rf x3), (4, .int x4)] [] g Q := by
  unfold jX11_turn_21 at h
  refine sX11_turn_21 ?_
  replace h := q_be h
  obtain ⟨v9, hv, h⟩ := h
  replace hv := q_fR_e hv
  obtain ⟨_, cv9, dv9⟩ := hv
  replace h := q_be h
  obtain ⟨a10, ea10, h⟩ := h
  subst ea10
  replace h := q_be h
  obtain ⟨v11, hv, h⟩ := h
  replace hv := q_fI_e hv
  obtain ⟨_, cv11, dv11⟩ := hv
  have kJ15 : ∀ w14 : Int32, w14 = (if (¬ x2 = (2 : Int32)) ∨ (x4 = v11) then (0 : Int32) else (1 : Int32)) → ps_At mX11_turn (d + 8) 47 [(0, .ref x0), (2, .int x2), (3, va_rf x3), (4, .int x4), (5, .int v11)] [.int w14] g Q := by
    rintro _ rfl
    refine sX11_turn_47 ?_
    replace h := q_tc_e h
    rcases h with ⟨E, g17, hv, rfl⟩ | ⟨v16, g17, hv, h⟩
    · exact rX11_refuse hv ⟨rfl, hk⟩
    refine rX11_refuse hv ?_
    replace h := q_be h
    obtain ⟨g18, hv, h⟩ := h
    replace hv := q_nA_e hv
    obtain ⟨ag18, bg18, yg18⟩ := hv
    refine ⟨Or.inl rfl, ag18, bg18, _, yg18, some _, _, rfl, by decide, by decide, ?_⟩
    replace h := q_be h
    obtain ⟨s48, hl, h⟩ := h
    refine ps_weak (q_lp_ok hl (fun s => ps_At mX11_turn (d + 8) 60 [(0, .ref x0), (2, .int x2), (3, va_rf x3), (4, .int x4), (5, .int v11), (6, .ref g17.1), (7, .int s.1)] [] s.2 Q) (fun r => ps_At mX11_turn (d + 8) 161 [(0, .ref x0), (3, va_rf x3), (6, .ref g17.1)] [] r Q) (fun s x hb hh he => pbX11_turn_60 hb hh he) ?_) ⟨(by first | rfl | (cases x3 <;> rfl)), (by first | rfl | (cases x3 <;> rfl)), (by first | rfl | (cases x3 <;> rfl)), (by first | rfl | (cases x3 <;> rfl)), (by first | rfl | (cases x3 <;> rfl)), (by first | rfl | (cases x3 <;> rfl)), (by first | rfl | (cases x3 <;> rfl)), trivial⟩
    refine (?_ : ps_At mX11_turn (d + 8) 161 [(0, .ref x0), (3, va_rf x3), (6, .ref g17.1)] [] s48 Q)
    refine sX11_turn_161 ?_
    replace h := q_be h
    obtain ⟨a49, ea49, h⟩ := h
    subst ea49
    replace h := q_be h
    obtain ⟨u50, hv, h⟩ := h
    replace hv := q_ob_e hv
    obtain ⟨_, cu50⟩ := hv
    replace h := q_be h
    obtain ⟨v51, hv, h⟩ := h
    refine ⟨⟨some _, rfl⟩, ⟨some _, rfl⟩, ⟨some _, rfl⟩, ⟨_, cu50⟩, ?_⟩
    refine rX11_replacePixels hv ?_
    cases h
    exact ⟨rfl, rfl, hk⟩
  refine ⟨⟨some _, rfl⟩, _, _, cv9, dv9, _, _, cv11, dv11, by decide, ?_⟩
  refine And.intro (fun hc12 => ?_) (fun hc12 => ?_)
  · refine sX11_turn_46 ?_
    exact ps_weak (kJ15 _ (if_pos (Or.inl hc12)).symm) ⟨(by first | rfl | (cases x3 <;> rfl)), (by first | rfl | (cases x3 <;> rfl)), (by first | rfl | (cases x3 <;> rfl)), (by first | rfl | (cases x3 <;> rfl)), (by first | rfl | (cases x3 <;> rfl)), trivial⟩
  · refine And.intro (fun hc13 => ?_) (fun hc13 => ?_)
    · refine sX11_turn_46 ?_
      exact ps_weak (kJ15 _ (if_pos (Or.inr (hc13))).symm) ⟨(by first | rfl | (cases x3 <;> rfl)), (by first | rfl | (cases x3 <;> rfl)), (by first | rfl | (cases x3 <;> rfl)), (by first | rfl | (cases x3 <;> rfl)), (by first | rfl | (cases x3 <;> rfl)), trivial⟩
    · exact ps_weak (kJ15 _ (if_neg (not_or.mpr ⟨hc12, hc13⟩)).symm) ⟨(by first | rfl | (cases x3 <;> rfl)), (by first | rfl | (cases x3 <;> rfl)), (by first | rfl | (cases x3 <;> rfl)), (by first | rfl | (cases x3 <;> rfl)), (by first | rfl | (cases x3 <;> rfl)), trivial⟩
noncomputable def fX11_turn (g : ps_G) (x0 : Nat) (x1 : Int32) (x2 : Int32) : Option ((String ⊕ Unit) × ps_G) := q_tc (fX11_range g x2 (0 : Int32) (2 : Int32)) fun v1 g2 => Option.bind (q_ob 11 g2 x0) fun u3 => q_tc (fX11_knownPixels g2 x0 x1) fun v4 g5 => Option.bind (q_fR 11 0 g5 x0) fun v6 => Option.bind (v6) fun a7 => Option.bind (q_fI 9 0 g5 a7) fun v8 => jX11_turn_21 g5 x0 x2 v4 v8
theorem rX11_turn {d : Nat} {Q : ps_Rs → ps_G → Prop} {g : ps_G} {x0 : Nat} {x1 : Int32} {x2 : Int32} {r : (String ⊕ Unit) × ps_G} (h : fX11_turn g x0 x1 x2 = some r) (hk : Q (q_rV r.1) r.2) : ps_Ok mX11_turn (d + 8) [.ref x0, .int x1, .int x2] g Q := by
  unfold fX11_turn at h
  refine sX11_turn_0 ?_
  replace h := q_tc_e h
  rcases h with ⟨E, g2, hv, rfl⟩ | ⟨v1, g2, hv, h⟩
  · exact rX11_range hv ⟨rfl, hk⟩
  refine rX11_range hv ?_
  replace h := q_be h
  obtain ⟨u3, hv, h⟩ := h
  replace hv := q_ob_e hv
  obtain ⟨_, cu3⟩ := hv
  refine ⟨⟨some _, rfl⟩, ⟨_, cu3⟩, ?_⟩
  replace h := q_tc_e h
  rcases h with ⟨E, g5, hv, rfl⟩ | ⟨v4, g5, hv, h⟩
  · exact rX11_knownPixels hv hk
  refine rX11_knownPixels hv ?_
  replace h := q_be h
  obtain ⟨v6, hv, h⟩ := h
  replace hv := q_fR_e hv
  obtain ⟨_, cv6, dv6⟩ := hv
  replace h := q_be h
  obtain ⟨a7, ea7, h⟩ := h
  subst ea7
  replace h := q_be h
  obtain ⟨v8, hv, h⟩ := h
  replace hv := q_fI_e hv
  obtain ⟨_, cv8, dv8⟩ := hv
  refine ⟨_, _, rfl, by decide, ⟨some _, rfl⟩, _, _, cv6, dv6, _, _, cv8, dv8, by decide, ?_⟩
  refine ps_weak (lv' := [(0, .ref x0), (2, .int x2), (3, va_rf v4), (4, .int v8)]) ?_ ⟨(by first | rfl | (cases v4 <;> rfl)), (by first | rfl | (cases v4 <;> rfl)), (by first | rfl | (cases v4 <;> rfl)), (by first | rfl | (cases v4 <;> rfl)), trivial⟩
  exact ps_weak (pjX11_turn_21 h hk) ⟨(by first | rfl | (cases v4 <;> rfl)), (by first | rfl | (cases v4 <;> rfl)), (by first | rfl | (cases v4 <;> rfl)), (by first | rfl | (cases v4 <;> rfl)), trivial⟩
noncomputable def bX4_between_27 (g : ps_G) (x0 : Nat) (x1 : Int32) (x2 : Int32) (x3 : Int32) (x4 : Int32) (x5 : Int32) (x6 : Int32) (x7 : Int32) (x8 : Int32) (x9 : Int32) (x10 : Int32) (x11 : Int32) : Option ((Int32 × Int32 × Int32 × Int32 × Int32) ⊕ (Int32 × Int32 × Int32 × Int32)) := if (4 : Int32) ≤ x11 then (some (.inr (x7, x8, x9, x10))) else (Option.bind (q_ob 4 g x0) fun u3 => Option.bind (fX4_own g x0 ((q_shr x1 (4 : Int32)) + (x11 &&& (1 : Int32))) ((q_shr x2 (4 : Int32)) + (q_shr x11 (1 : Int32))) x3 x4) fun v4 => some (.inl (x7 + (((if ¬ (x11 &&& (1 : Int32)) = (1 : Int32) then (16 : Int32) - x5 else x5) * (if ¬ (q_shr x11 (1 : Int32)) = (1 : Int32) then (16 : Int32) - x6 else x6)) * (q_ush v4 (24 : Int32))), x8 + ((((if ¬ (x11 &&& (1 : Int32)) = (1 : Int32) then (16 : Int32) - x5 else x5) * (if ¬ (q_shr x11 (1 : Int32)) = (1 : Int32) then (16 : Int32) - x6 else x6)) * (q_ush v4 (24 : Int32))) * (fX11_red v4)), x9 + ((((if ¬ (x11 &&& (1 : Int32)) = (1 : Int32) then (16 : Int32) - x5 else x5) * (if ¬ (q_shr x11 (1 : Int32)) = (1 : Int32) then (16 : Int32) - x6 else x6)) * (q_ush v4 (24 : Int32))) * (fX11_green v4)), x10 + ((((if ¬ (x11 &&& (1 : Int32)) = (1 : Int32) then (16 : Int32) - x5 else x5) * (if ¬ (q_shr x11 (1 : Int32)) = (1 : Int32) then (16 : Int32) - x6 else x6)) * (q_ush v4 (24 : Int32))) * (fX11_blue v4)), x11 + (1 : Int32))))
theorem pbX4_between_27 {d : Nat} {Q : ps_Rs → ps_G → Prop} {g : ps_G} {x0 : Nat} {x1 : Int32} {x2 : Int32} {x3 : Int32} {x4 : Int32} {x5 : Int32} {x6 : Int32} {x7 : Int32} {x8 : Int32} {x9 : Int32} {x10 : Int32} {x11 : Int32} {x : (Int32 × Int32 × Int32 × Int32 × Int32) ⊕ (Int32 × Int32 × Int32 × Int32)} (h : bX4_between_27 g x0 x1 x2 x3 x4 x5 x6 x7 x8 x9 x10 x11 = some x) (hh : ∀ s' : Int32 × Int32 × Int32 × Int32 × Int32, x = .inl s' → ps_At mX4_between (d + 1) 27 [(0, .ref x0), (1, .int x1), (2, .int x2), (3, .int x3), (4, .int x4), (5, .int x5), (6, .int x6), (7, .int s'.1), (8, .int s'.2.1), (9, .int s'.2.2.1), (10, .int s'.2.2.2.1), (11, .int s'.2.2.2.2)] [] g Q) (he : ∀ r' : Int32 × Int32 × Int32 × Int32, x = .inr r' → ps_At mX4_between (d + 1) 159 [(7, .int r'.1), (8, .int r'.2.1), (9, .int r'.2.2.1), (10, .int r'.2.2.2)] [] g Q) : ps_At mX4_between (d + 1) 27 [(0, .ref x0), (1, .int x1), (2, .int x2), (3, .int x3), (4, .int x4), (5, .int x5), (6, .int x6), (7, .int x7), (8, .int x8), (9, .int x9), (10, .int x10), (11, .int x11)] [] g Q := by
  unfold bX4_between_27 at h
  refine sX4_between_27 ?_
  refine And.intro (fun hc1 => ?_) (fun hc1 => ?_)
  · replace h := q_ifp (hc1) h
    exact ps_weak (he (x7, x8, x9, x10) (Option.some.inj h).symm) ⟨rfl, rfl, rfl, rfl, trivial⟩
  · replace h := q_ifn (hc1) h
    replace h := q_be h
    obtain ⟨u3, hv, h⟩ := h
    replace hv := q_ob_e hv
    obtain ⟨_, cu3⟩ := hv
    replace h := q_be h
    obtain ⟨v4, hv, h⟩ := h
    refine ⟨by decide, by decide, ⟨some _, rfl⟩, ⟨_, cu3⟩, ?_⟩
    refine rX4_own hv ?_
    have kJ7 : ∀ w6 : Int32, w6 = (if ¬ (x11 &&& (1 : Int32)) = (1 : Int32) then (16 : Int32) - x5 else x5) → ps_At mX4_between (d + 1) 82 [(0, .ref x0), (1, .int x1), (2, .int x2), (3, .int x3), (4, .int x4), (5, .int x5), (6, .int x6), (7, .int x7), (8, .int x8), (9, .int x9), (10, .int x10), (11, .int x11), (13, .int (q_shr x11 (1 : Int32))), (14, .int v4)] [.int w6] g Q := by
      rintro _ rfl
      refine sX4_between_82 ?_
      have kJ10 : ∀ w9 : Int32, w9 = (if ¬ (q_shr x11 (1 : Int32)) = (1 : Int32) then (16 : Int32) - x6 else x6) → ps_At mX4_between (d + 1) 98 [(0, .ref x0), (1, .int x1), (2, .int x2), (3, .int x3), (4, .int x4), (5, .int x5), (6, .int x6), (7, .int x7), (8, .int x8), (9, .int x9), (10, .int x10), (11, .int x11), (14, .int v4)] [.int w9, .int (if ¬ (x11 &&& (1 : Int32)) = (1 : Int32) then (16 : Int32) - x5 else x5)] g Q := by
        rintro _ rfl
        refine sX4_between_98 ?_
        refine ⟨by decide, by decide, ?_⟩
        refine rX11_red rfl ?_
        refine ⟨by decide, ?_⟩
        refine rX11_green rfl ?_
        refine ⟨by decide, ?_⟩
        refine rX11_blue rfl ?_
        refine ⟨by decide, by decide, ?_⟩
        exact ps_weak (hh (x7 + (((if ¬ (x11 &&& (1 : Int32)) = (1 : Int32) then (16 : Int32) - x5 else x5) * (if ¬ (q_shr x11 (1 : Int32)) = (1 : Int32) then (16 : Int32) - x6 else x6)) * (q_ush v4 (24 : Int32))), x8 + ((((if ¬ (x11 &&& (1 : Int32)) = (1 : Int32) then (16 : Int32) - x5 else x5) * (if ¬ (q_shr x11 (1 : Int32)) = (1 : Int32) then (16 : Int32) - x6 else x6)) * (q_ush v4 (24 : Int32))) * (fX11_red v4)), x9 + ((((if ¬ (x11 &&& (1 : Int32)) = (1 : Int32) then (16 : Int32) - x5 else x5) * (if ¬ (q_shr x11 (1 : Int32)) = (1 : Int32) then (16 : Int32) - x6 else x6)) * (q_ush v4 (24 : Int32))) * (fX11_green v4)), x10 + ((((if ¬ (x11 &&& (1 : Int32)) = (1 : Int32) then (16 : Int32) - x5 else x5) * (if ¬ (q_shr x11 (1 : Int32)) = (1 : Int32) then (16 : Int32) - x6 else x6)) * (q_ush v4 (24 : Int32))) * (fX11_blue v4)), x11 + (1 : Int32)) (Option.some.inj h).symm) ⟨rfl, rfl, rfl, rfl, rfl, rfl, rfl, rfl, rfl, rfl, rfl, rfl, trivial⟩
      refine And.intro (fun hc8 => ?_) (fun hc8 => ?_)
      · refine sX4_between_93 ?_
        exact ps_weak (kJ10 _ (if_pos (hc8)).symm) ⟨rfl, rfl, rfl, rfl, rfl, rfl, rfl, rfl, rfl, rfl, rfl, rfl, rfl, trivial⟩
      · exact ps_weak (kJ10 _ (if_neg (hc8)).symm) ⟨rfl, rfl, rfl, rfl, rfl, rfl, rfl, rfl, rfl, rfl, rfl, rfl, rfl, trivial⟩
    refine ⟨by decide, ?_⟩
    refine And.intro (fun hc5 => ?_) (fun hc5 => ?_)
    · refine sX4_between_77 ?_
      exact ps_weak (kJ7 _ (if_pos (hc5)).symm) ⟨rfl, rfl, rfl, rfl, rfl, rfl, rfl, rfl, rfl, rfl, rfl, rfl, rfl, rfl, trivial⟩
    · exact ps_weak (kJ7 _ (if_neg (hc5)).symm) ⟨rfl, rfl, rfl, rfl, rfl, rfl, rfl, rfl, rfl, rfl, rfl, rfl, rfl, rfl, trivial⟩
noncomputable def fX4_between (g : ps_G) (x0 : Nat) (x1 : Int32) (x2 : Int32) (x3 : Int32) (x4 : Int32) : Option (Int32) := Option.bind (q_lp (fun s => bX4_between_27 g x0 x1 x2 x3 x4 (x1 &&& (15 : Int32)) (x2 &&& (15 : Int32)) s.1 s.2.1 s.2.2.1 s.2.2.2.1 s.2.2.2.2) ((0 : Int32), (0 : Int32), (0 : Int32), (0 : Int32), (0 : Int32))) fun s13 => Option.bind (fX11_mean g (256 : Int32) s13.1 s13.2.1 s13.2.2.1 s13.2.2.2) fun v14 => some v14
theorem rX4_between {d : Nat} {Q : ps_Rs → ps_G → Prop} {g : ps_G} {x0 : Nat} {x1 : Int32} {x2 : Int32} {x3 : Int32} {x4 : Int32} {r : Int32} (h : fX4_between g x0 x1 x2 x3 x4 = some r) (hk : Q (.inl (some (.int r))) g) : ps_Ok mX4_between (d + 1) [.ref x0, .int x1, .int x2, .int x3, .int x4] g Q := by
  unfold fX4_between at h
  refine sX4_between_0 ?_
  refine ⟨by decide, by decide, by decide, by decide, by decide, by decide, by decide, ?_⟩
  replace h := q_be h
  obtain ⟨s13, hl, h⟩ := h
  refine ps_weak (q_lp_ok hl (fun s => ps_At mX4_between (d + 1) 27 [(0, .ref x0), (1, .int x1), (2, .int x2), (3, .int x3), (4, .int x4), (5, .int (x1 &&& (15 : Int32))), (6, .int (x2 &&& (15 : Int32))), (7, .int s.1), (8, .int s.2.1), (9, .int s.2.2.1), (10, .int s.2.2.2.1), (11, .int s.2.2.2.2)] [] g Q) (fun r => ps_At mX4_between (d + 1) 159 [(7, .int r.1), (8, .int r.2.1), (9, .int r.2.2.1), (10, .int r.2.2.2)] [] g Q) (fun s x hb hh he => pbX4_between_27 hb hh he) ?_) ⟨rfl, rfl, rfl, rfl, rfl, rfl, rfl, rfl, rfl, rfl, rfl, rfl, trivial⟩
  refine (?_ : ps_At mX4_between (d + 1) 159 [(7, .int s13.1), (8, .int s13.2.1), (9, .int s13.2.2.1), (10, .int s13.2.2.2)] [] g Q)
  refine sX4_between_159 ?_
  replace h := q_be h
  obtain ⟨v14, hv, h⟩ := h
  refine rX11_mean hv ?_
  cases h
  exact ⟨rfl, hk⟩
noncomputable def jX11_scale_158_59 (g : ps_G) (x0 : Nat) (x2 : Int32) (x3 : Int32) (x4 : Int32) (x5 : Option Nat) (x6 : Int32) (x7 : Int32) (x8 : Nat) (x9 : Int32) (x10 : Int32) (k0 : Nat) (k1 : Int32) (k2 : Int32) : Option ((Int32 × ps_G) ⊕ (ps_G)) := Option.bind (q_wI g k0 k1 k2) fun g26 => some (.inl (x10 + (1 : Int32), g26))
theorem pjX11_scale_158_59 {d : Nat} {Q : ps_Rs → ps_G → Prop} {g : ps_G} {x0 : Nat} {x2 : Int32} {x3 : Int32} {x4 : Int32} {x5 : Option Nat} {x6 : Int32} {x7 : Int32} {x8 : Nat} {x9 : Int32} {x10 : Int32} {k0 : Nat} {k1 : Int32} {k2 : Int32} {x : (Int32 × ps_G) ⊕ (ps_G)} (h : jX11_scale_158_59 g x0 x2 x3 x4 x5 x6 x7 x8 x9 x10 k0 k1 k2 = some x) (hh : ∀ s' : Int32 × ps_G, x = .inl s' → ps_At mX11_scale (d + 8) 59 [(0, .ref x0), (2, .int x2), (3, .int x3), (4, .int x4), (5, va_rf x5), (6, .int x6), (7, .int x7), (8, .ref x8), (9, .int x9), (10, .int s'.1)] [] s'.2 Q) (he : ∀ r' : ps_G, x = .inr r' → ps_At mX11_scale (d + 8) 165 [(0, .ref x0), (2, .int x2), (3, .int x3), (4, .int x4), (5, va_rf x5), (6, .int x6), (7, .int x7), (8, .ref x8), (9, .int x9)] [] r' Q) : ps_At mX11_scale (d + 8) 158 [(0, .ref x0), (2, .int x2), (3, .int x3), (4, .int x4), (5, va_rf x5), (6, .int x6), (7, .int x7), (8, .ref x8), (9, .int x9), (10, .int x10)] [.int k2, .int k1, .ref k0] g Q := by
  unfold jX11_scale_158_59 at h
  refine sX11_scale_158 ?_
  replace h := q_be h
  obtain ⟨g26, hv, h⟩ := h
  replace hv := q_wI_e hv
  obtain ⟨_, _, cg26, pg26, ig26, yg26⟩ := hv
  refine ⟨_, _, cg26, pg26, ig26, _, yg26, by decide, ?_⟩
  exact ps_weak (hh (x10 + (1 : Int32), g26) (Option.some.inj h).symm) ⟨(by first | rfl | (cases x5 <;> rfl)), (by first | rfl | (cases x5 <;> rfl)), (by first | rfl | (cases x5 <;> rfl)), (by first | rfl | (cases x5 <;> rfl)), (by first | rfl | (cases x5 <;> rfl)), (by first | rfl | (cases x5 <;> rfl)), (by first | rfl | (cases x5 <;> rfl)), (by first | rfl | (cases x5 <;> rfl)), (by first | rfl | (cases x5 <;> rfl)), (by first | rfl | (cases x5 <;> rfl)), trivial⟩
noncomputable def bX11_scale_59 (x0 : Nat) (x2 : Int32) (x3 : Int32) (x4 : Int32) (x5 : Option Nat) (x6 : Int32) (x7 : Int32) (x8 : Nat) (x9 : Int32) (x10 : Int32) (g : ps_G) : Option ((Int32 × ps_G) ⊕ (ps_G)) := if x6 ≤ x10 then (some (.inr g)) else (if x4 = 0 then (Option.bind (x5) fun a21 => Option.bind (q_div ((((2 : Int32) * x10) + (1 : Int32)) * x3) ((2 : Int32) * x2)) fun v22 => Option.bind (q_div ((((2 : Int32) * x9) + (1 : Int32)) * x3) ((2 : Int32) * x2)) fun v23 => Option.bind (q_ob 4 g a21) fun u24 => Option.bind (fX4_own g a21 v22 v23 x6 x7) fun v25 => jX11_scale_158_59 g x0 x2 x3 x4 (some a21) x6 x7 x8 x9 x10 x8 ((x9 * x6) + x10) v25) else (Option.bind (x5) fun a27 => Option.bind (q_div (((((2 : Int32) * x10) + (1 : Int32)) * x3) * (8 : Int32)) x2) fun v28 => Option.bind (q_div (((((2 : Int32) * x9) + (1 : Int32)) * x3) * (8 : Int32)) x2) fun v29 => Option.bind (q_ob 4 g a27) fun u30 => Option.bind (fX4_between g a27 (v28 - (8 : Int32)) (v29 - (8 : Int32)) x6 x7) fun v31 => jX11_scale_158_59 g x0 x2 x3 x4 (some a27) x6 x7 x8 x9 x10 x8 ((x9 * x6) + x10) v31))
theorem pbX11_scale_59 {d : Nat} {Q : ps_Rs → ps_G → Prop}  {x0 : Nat} {x2 : Int32} {x3 : Int32} {x4 : Int32} {x5 : Option Nat} {x6 : Int32} {x7 : Int32} {x8 : Nat} {x9 : Int32} {x10 : Int32} {g : ps_G} {x : (Int32 × ps_G) ⊕ (ps_G)} (h : bX11_scale_59 x0 x2 x3 x4 x5 x6 x7 x8 x9 x10 g = some x) (hh : ∀ s' : Int32 × ps_G, x = .inl s' → ps_At mX11_scale (d + 8) 59 [(0, .ref x0), (2, .int x2), (3, .int x3), (4, .int x4), (5, va_rf x5), (6, .int x6), (7, .int x7), (8, .ref x8), (9, .int x9), (10, .int s'.1)] [] s'.2 Q) (he : ∀ r' : ps_G, x = .inr r' → ps_At mX11_scale (d + 8) 165 [(0, .ref x0), (2, .int x2), (3, .int x3), (4, .int x4), (5, va_rf x5), (6, .int x6), (7, .int x7), (8, .ref x8), (9, .int x9)] [] r' Q) : ps_At mX11_scale (d + 8) 59 [(0, .ref x0), (2, .int x2), (3, .int x3), (4, .int x4), (5, va_rf x5), (6, .int x6), (7, .int x7), (8, .ref x8), (9, .int x9), (10, .int x10)] [] g Q := by
  unfold bX11_scale_59 at h
  refine sX11_scale_59 ?_
  refine And.intro (fun hc16 => ?_) (fun hc16 => ?_)
  · replace h := q_ifp (hc16) h
    exact ps_weak (he g (Option.some.inj h).symm) ⟨(by first | rfl | (cases x5 <;> rfl)), (by first | rfl | (cases x5 <;> rfl)), (by first | rfl | (cases x5 <;> rfl)), (by first | rfl | (cases x5 <;> rfl)), (by first | rfl | (cases x5 <;> rfl)), (by first | rfl | (cases x5 <;> rfl)), (by first | rfl | (cases x5 <;> rfl)), (by first | rfl | (cases x5 <;> rfl)), (by first | rfl | (cases x5 <;> rfl)), trivial⟩
  · replace h := q_ifn (hc16) h
    refine ⟨⟨some _, rfl⟩, ?_⟩
    refine And.intro (fun hc19 => ?_) (fun hc19 => ?_)
    · replace h := q_ifp (hc19) h
      refine sX11_scale_125 ?_
      replace h := q_be h
      obtain ⟨a21, ea21, h⟩ := h
      subst ea21
      replace h := q_be h
      obtain ⟨v22, hv, h⟩ := h
      replace hv := q_div_e hv
      obtain ⟨zv22, yv22⟩ := hv
      replace h := q_be h
      obtain ⟨v23, hv, h⟩ := h
      replace hv := q_div_e hv
      obtain ⟨zv23, yv23⟩ := hv
      replace h := q_be h
      obtain ⟨u24, hv, h⟩ := h
      replace hv := q_ob_e hv
      obtain ⟨_, cu24⟩ := hv
      replace h := q_be h
      obtain ⟨v25, hv, h⟩ := h
      refine ⟨⟨some _, rfl⟩, zv22, _, yv22, zv23, _, yv23, ⟨_, cu24⟩, ?_⟩
      refine rX4_own hv ?_
      exact ps_weak (pjX11_scale_158_59 h hh he) ⟨rfl, rfl, rfl, rfl, rfl, rfl, rfl, rfl, rfl, rfl, trivial⟩
    · replace h := q_ifn (hc19) h
      replace h := q_be h
      obtain ⟨a27, ea27, h⟩ := h
      subst ea27
      replace h := q_be h
      obtain ⟨v28, hv, h⟩ := h
      replace hv := q_div_e hv
      obtain ⟨zv28, yv28⟩ := hv
      replace h := q_be h
      obtain ⟨v29, hv, h⟩ := h
      replace hv := q_div_e hv
      obtain ⟨zv29, yv29⟩ := hv
      replace h := q_be h
      obtain ⟨u30, hv, h⟩ := h
      replace hv := q_ob_e hv
      obtain ⟨_, cu30⟩ := hv
      replace h := q_be h
      obtain ⟨v31, hv, h⟩ := h
      refine ⟨⟨some _, rfl⟩, zv28, _, yv28, zv29, _, yv29, ⟨_, cu30⟩, ?_⟩
      refine rX4_between hv ?_
      exact ps_weak (pjX11_scale_158_59 h hh he) ⟨rfl, rfl, rfl, rfl, rfl, rfl, rfl, rfl, rfl, rfl, trivial⟩
noncomputable def bX11_scale_49 (x0 : Nat) (x2 : Int32) (x3 : Int32) (x4 : Int32) (x5 : Option Nat) (x6 : Int32) (x7 : Int32) (x8 : Nat) (x9 : Int32) (g : ps_G) : Option ((Int32 × ps_G) ⊕ (ps_G)) := if x7 ≤ x9 then (some (.inr g)) else (Option.bind (q_lp (fun s => bX11_scale_59 x0 x2 x3 x4 x5 x6 x7 x8 x9 s.1 s.2) ((0 : Int32), g)) fun s36 => some (.inl (x9 + (1 : Int32), s36)))
theorem pbX11_scale_49 {d : Nat} {Q : ps_Rs → ps_G → Prop}  {x0 : Nat} {x2 : Int32} {x3 : Int32} {x4 : Int32} {x5 : Option Nat} {x6 : Int32} {x7 : Int32} {x8 : Nat} {x9 : Int32} {g : ps_G} {x : (Int32 × ps_G) ⊕ (ps_G)} (h : bX11_scale_49 x0 x2 x3 x4 x5 x6 x7 x8 x9 g = some x) (hh : ∀ s' : Int32 × ps_G, x = .inl s' → ps_At mX11_scale (d + 8) 49 [(0, .ref x0), (2, .int x2), (3, .int x3), (4, .int x4), (5, va_rf x5), (6, .int x6), (7, .int x7), (8, .ref x8), (9, .int s'.1)] [] s'.2 Q) (he : ∀ r' : ps_G, x = .inr r' → ps_At mX11_scale (d + 8) 171 [(0, .ref x0), (5, va_rf x5), (8, .ref x8)] [] r' Q) : ps_At mX11_scale (d + 8) 49 [(0, .ref x0), (2, .int x2), (3, .int x3), (4, .int x4), (5, va_rf x5), (6, .int x6), (7, .int x7), (8, .ref x8), (9, .int x9)] [] g Q := by
  unfold bX11_scale_49 at h
  refine sX11_scale_49 ?_
  refine And.intro (fun hc15 => ?_) (fun hc15 => ?_)
  · replace h := q_ifp (hc15) h
    exact ps_weak (he g (Option.some.inj h).symm) ⟨(by first | rfl | (cases x5 <;> rfl)), (by first | rfl | (cases x5 <;> rfl)), (by first | rfl | (cases x5 <;> rfl)), trivial⟩
  · replace h := q_ifn (hc15) h
    refine ⟨by decide, ?_⟩
    replace h := q_be h
    obtain ⟨s36, hl, h⟩ := h
    refine ps_weak (q_lp_ok hl (fun s => ps_At mX11_scale (d + 8) 59 [(0, .ref x0), (2, .int x2), (3, .int x3), (4, .int x4), (5, va_rf x5), (6, .int x6), (7, .int x7), (8, .ref x8), (9, .int x9), (10, .int s.1)] [] s.2 Q) (fun r => ps_At mX11_scale (d + 8) 165 [(0, .ref x0), (2, .int x2), (3, .int x3), (4, .int x4), (5, va_rf x5), (6, .int x6), (7, .int x7), (8, .ref x8), (9, .int x9)] [] r Q) (fun s x hb hh he => pbX11_scale_59 hb hh he) ?_) ⟨(by first | rfl | (cases x5 <;> rfl)), (by first | rfl | (cases x5 <;> rfl)), (by first | rfl | (cases x5 <;> rfl)), (by first | rfl | (cases x5 <;> rfl)), (by first | rfl | (cases x5 <;> rfl)), (by first | rfl | (cases x5 <;> rfl)), (by first | rfl | (cases x5 <;> rfl)), (by first | rfl | (cases x5 <;> rfl)), (by first | rfl | (cases x5 <;> rfl)), (by first | rfl | (cases x5 <;> rfl)), trivial⟩
    refine (?_ : ps_At mX11_scale (d + 8) 165 [(0, .ref x0), (2, .int x2), (3, .int x3), (4, .int x4), (5, va_rf x5), (6, .int x6), (7, .int x7), (8, .ref x8), (9, .int x9)] [] s36 Q)
    refine sX11_scale_165 ?_
    refine ⟨by decide, ?_⟩
    exact ps_weak (hh (x9 + (1 : Int32), s36) (Option.some.inj h).symm) ⟨(by first | rfl | (cases x5 <;> rfl)), (by first | rfl | (cases x5 <;> rfl)), (by first | rfl | (cases x5 <;> rfl)), (by first | rfl | (cases x5 <;> rfl)), (by first | rfl | (cases x5 <;> rfl)), (by first | rfl | (cases x5 <;> rfl)), (by first | rfl | (cases x5 <;> rfl)), (by first | rfl | (cases x5 <;> rfl)), (by first | rfl | (cases x5 <;> rfl)), trivial⟩
noncomputable def jX11_scale_30 (g : ps_G) (x0 : Nat) (x2 : Int32) (x3 : Int32) (x4 : Int32) (x5 : Option Nat) (x6 : Int32) : Option ((String ⊕ Unit) × ps_G) := Option.bind (q_fR 11 0 g x0) fun v11 => Option.bind (v11) fun a12 => Option.bind (q_fI 9 1 g a12) fun v13 => Option.bind (q_nA .int g (576 : Int32)) fun g14 => Option.bind (q_lp (fun s => bX11_scale_49 x0 x2 x3 x4 x5 x6 v13 g.1 s.1 s.2) ((0 : Int32), g14)) fun s39 => Option.bind (x5) fun a40 => Option.bind (q_ob 11 s39 x0) fun u41 => Option.bind (fX11_replacePixels s39 x0 a40 g.1) fun v42 => some (.inr (), v42)
theorem pjX11_scale_30 {d : Nat} {Q : ps_Rs → ps_G → Prop} {g : ps_G} {x0 : Nat} {x2 : Int32} {x3 : Int32} {x4 : Int32} {x5 : Option Nat} {x6 : Int32} {r : (String ⊕ Unit) × ps_G} (h : jX11_scale_30 g x0 x2 x3 x4 x5 x6 = some r) (hk : Q (q_rV r.1) r.2) : ps_At mX11_scale (d + 8) 30 [(0, .ref x0), (2, .int x2), (3, .int x3), (4, .int x4), (5, va_rf x5), (6, .int x6)] [] g Q := by
  unfold jX11_scale_30 at h
  refine sX11_scale_30 ?_
  replace h := q_be h
  obtain ⟨v11, hv, h⟩ := h
  replace hv := q_fR_e hv
  obtain ⟨_, cv11, dv11⟩ := hv
  replace h := q_be h
  obtain ⟨a12, ea12, h⟩ := h
  subst ea12
  replace h := q_be h
  obtain ⟨v13, hv, h⟩ := h
  replace hv := q_fI_e hv
  obtain ⟨_, cv13, dv13⟩ := hv
  replace h := q_be h
  obtain ⟨g14, hv, h⟩ := h
  replace hv := q_nA_e hv
  obtain ⟨ag14, bg14, yg14⟩ := hv
  refine ⟨⟨some _, rfl⟩, _, _, cv11, dv11, _, _, cv13, dv13, by decide, Or.inl rfl, ag14, bg14, _, yg14, some _, _, rfl, by decide, by decide, ?_⟩
  replace h := q_be h
  obtain ⟨s39, hl, h⟩ := h
  refine ps_weak (q_lp_ok hl (fun s => ps_At mX11_scale (d + 8) 49 [(0, .ref x0), (2, .int x2), (3, .int x3), (4, .int x4), (5, va_rf x5), (6, .int x6), (7, .int v13), (8, .ref g.1), (9, .int s.1)] [] s.2 Q) (fun r => ps_At mX11_scale (d + 8) 171 [(0, .ref x0), (5, va_rf x5), (8, .ref g.1)] [] r Q) (fun s x hb hh he => pbX11_scale_49 hb hh he) ?_) ⟨(by first | rfl | (cases x5 <;> rfl)), (by first | rfl | (cases x5 <;> rfl)), (by first | rfl | (cases x5 <;> rfl)), (by first | rfl | (cases x5 <;> rfl)), (by first | rfl | (cases x5 <;> rfl)), (by first | rfl | (cases x5 <;> rfl)), (by first | rfl | (cases x5 <;> rfl)), (by first | rfl | (cases x5 <;> rfl)), (by first | rfl | (cases x5 <;> rfl)), trivial⟩
  refine (?_ : ps_At mX11_scale (d + 8) 171 [(0, .ref x0), (5, va_rf x5), (8, .ref g.1)] [] s39 Q)
  refine sX11_scale_171 ?_
  replace h := q_be h
  obtain ⟨a40, ea40, h⟩ := h
  subst ea40
  replace h := q_be h
  obtain ⟨u41, hv, h⟩ := h
  replace hv := q_ob_e hv
  obtain ⟨_, cu41⟩ := hv
  replace h := q_be h
  obtain ⟨v42, hv, h⟩ := h
  refine ⟨⟨some _, rfl⟩, ⟨some _, rfl⟩, ⟨some _, rfl⟩, ⟨_, cu41⟩, ?_⟩
  refine rX11_replacePixels hv ?_
  cases h
  exact ⟨rfl, rfl, hk⟩
noncomputable def fX11_scale (g : ps_G) (x0 : Nat) (x1 : Int32) (x2 : Int32) (x3 : Int32) (x4 : Int32) : Option ((String ⊕ Unit) × ps_G) := q_tc (fX11_range g x2 (1 : Int32) (16 : Int32)) fun v1 g2 => q_tc (fX11_range g2 x3 (1 : Int32) (16 : Int32)) fun v3 g4 => Option.bind (q_ob 11 g4 x0) fun u5 => q_tc (fX11_knownPixels g4 x0 x1) fun v6 g7 => Option.bind (q_fR 11 0 g7 x0) fun v8 => Option.bind (v8) fun a9 => Option.bind (q_fI 9 0 g7 a9) fun v10 => jX11_scale_30 g7 x0 x2 x3 x4 v6 v10
theorem rX11_scale {d : Nat} {Q : ps_Rs → ps_G → Prop} {g : ps_G} {x0 : Nat} {x1 : Int32} {x2 : Int32} {x3 : Int32} {x4 : Int32} {r : (String ⊕ Unit) × ps_G} (h : fX11_scale g x0 x1 x2 x3 x4 = some r) (hk : Q (q_rV r.1) r.2) : ps_Ok mX11_scale (d + 8) [.ref x0, .int x1, .int x2, .int x3, .int x4] g Q := by
  unfold fX11_scale at h
  refine sX11_scale_0 ?_
  replace h := q_tc_e h
  rcases h with ⟨E, g2, hv, rfl⟩ | ⟨v1, g2, hv, h⟩
  · exact rX11_range hv ⟨rfl, hk⟩
  refine rX11_range hv ?_
  replace h := q_tc_e h
  rcases h with ⟨E, g4, hv, rfl⟩ | ⟨v3, g4, hv, h⟩
  · exact rX11_range hv ⟨rfl, hk⟩
  refine rX11_range hv ?_
  replace h := q_be h
  obtain ⟨u5, hv, h⟩ := h
  replace hv := q_ob_e hv
  obtain ⟨_, cu5⟩ := hv
  refine ⟨⟨some _, rfl⟩, ⟨_, cu5⟩, ?_⟩
  replace h := q_tc_e h
  rcases h with ⟨E, g7, hv, rfl⟩ | ⟨v6, g7, hv, h⟩
  · exact rX11_knownPixels hv hk
  refine rX11_knownPixels hv ?_
  replace h := q_be h
  obtain ⟨v8, hv, h⟩ := h
  replace hv := q_fR_e hv
  obtain ⟨_, cv8, dv8⟩ := hv
  replace h := q_be h
  obtain ⟨a9, ea9, h⟩ := h
  subst ea9
  replace h := q_be h
  obtain ⟨v10, hv, h⟩ := h
  replace hv := q_fI_e hv
  obtain ⟨_, cv10, dv10⟩ := hv
  refine ⟨_, _, rfl, by decide, ⟨some _, rfl⟩, _, _, cv8, dv8, _, _, cv10, dv10, by decide, ?_⟩
  refine ps_weak (lv' := [(0, .ref x0), (2, .int x2), (3, .int x3), (4, .int x4), (5, va_rf v6), (6, .int v10)]) ?_ ⟨(by first | rfl | (cases v6 <;> rfl)), (by first | rfl | (cases v6 <;> rfl)), (by first | rfl | (cases v6 <;> rfl)), (by first | rfl | (cases v6 <;> rfl)), (by first | rfl | (cases v6 <;> rfl)), (by first | rfl | (cases v6 <;> rfl)), trivial⟩
  exact ps_weak (pjX11_scale_30 h hk) ⟨(by first | rfl | (cases v6 <;> rfl)), (by first | rfl | (cases v6 <;> rfl)), (by first | rfl | (cases v6 <;> rfl)), (by first | rfl | (cases v6 <;> rfl)), (by first | rfl | (cases v6 <;> rfl)), (by first | rfl | (cases v6 <;> rfl)), trivial⟩
noncomputable def jX10_together_38 (g : ps_G) (x0 : Nat) : Option (Option Nat × ps_G) := Option.bind (q_fR 10 1 g x0) fun v15 => Option.bind (v15) fun a16 => Option.bind (q_aR g a16 (0 : Int32)) fun v17 => Option.bind (v17) fun a18 => Option.bind (q_cl g a18) fun g19 => some ((some g.1), g19)
theorem pjX10_together_38 {d : Nat} {Q : ps_Rs → ps_G → Prop} {g : ps_G} {x0 : Nat} {r : Option Nat × ps_G} (h : jX10_together_38 g x0 = some r) (hk : Q (.inl (some (va_rf r.1))) r.2) : ps_At mX10_together (d + 101) 38 [(0, .ref x0)] [] g Q := by
  unfold jX10_together_38 at h
  refine sX10_together_38 ?_
  replace h := q_be h
  obtain ⟨v15, hv, h⟩ := h
  replace hv := q_fR_e hv
  obtain ⟨_, cv15, dv15⟩ := hv
  replace h := q_be h
  obtain ⟨a16, ea16, h⟩ := h
  subst ea16
  replace h := q_be h
  obtain ⟨v17, hv, h⟩ := h
  replace hv := q_aR_e hv
  obtain ⟨_, _, _, cv17, pv17, qv17, iv17, dv17⟩ := hv
  replace h := q_be h
  obtain ⟨a18, ea18, h⟩ := h
  subst ea18
  replace h := q_be h
  obtain ⟨g19, hv, h⟩ := h
  replace hv := q_cl_e hv
  obtain ⟨_, _, ag19, bg19, wg19, yg19⟩ := hv
  cases h
  exact ⟨⟨some _, rfl⟩, _, _, cv15, dv15, _, _, _, _, cv17, pv17, qv17, iv17, dv17, _, _, ag19, bg19, by decide, _, yg19, _, _, (by rw [← yg19]; exact if_pos rfl), wg19, some _, _, rfl, rfl, ⟨_, rfl, Or.inr ⟨_, rfl⟩⟩, hk⟩
noncomputable def fX10_together (g : ps_G) (x0 : Nat) (x1 : Nat) (x2 : Nat) (x3 : Option Nat) : Option (Option Nat × ps_G) := Option.bind (q_fR 10 1 g x0) fun v1 => Option.bind (v1) fun a2 => Option.bind (q_aR g a2 (0 : Int32)) fun v3 => Option.bind (v3) fun a4 => Option.bind (fJ7_fill_53178 g a4 (0 : Int32)) fun v5 => Option.bind (q_fR 10 2 v5 x0) fun v6 => Option.bind (v6) fun a7 => Option.bind (q_aR v5 a7 (0 : Int32)) fun v8 => Option.bind (v8) fun a9 => Option.bind (fJ7_fill_53178 v5 a9 (0 : Int32)) fun v10 => Option.bind (q_ob 10 v10 x0) fun u11 => Option.bind (fX10_lay (fX10_viewOf 31) v10 x0 x1 x2 (0 : Int32)) fun v12 => if x3 = none then (jX10_together_38 v12 x0) else (Option.bind (x3) fun a20 => Option.bind (q_ob 10 v12 x0) fun u21 => Option.bind (fX10_lay (fX10_viewOf 31) v12 x0 x1 a20 (0 : Int32)) fun v22 => jX10_together_38 v22 x0)
theorem rX10_together {d : Nat} {Q : ps_Rs → ps_G → Prop} {g : ps_G} {x0 : Nat} {x1 : Nat} {x2 : Nat} {x3 : Option Nat} {r : Option Nat × ps_G} (h : fX10_together g x0 x1 x2 x3 = some r) (hk : Q (.inl (some (va_rf r.1))) r.2) : ps_Ok mX10_together (d + 101) [.ref x0, .ref x1, .ref x2, va_rf x3] g Q := by
  unfold fX10_together at h
  refine sX10_together_0 ?_
  replace h := q_be h
  obtain ⟨v1, hv, h⟩ := h
  replace hv := q_fR_e hv
  obtain ⟨_, cv1, dv1⟩ := hv
  replace h := q_be h
  obtain ⟨a2, ea2, h⟩ := h
  subst ea2
  replace h := q_be h
  obtain ⟨v3, hv, h⟩ := h
  replace hv := q_aR_e hv
  obtain ⟨_, _, _, cv3, pv3, qv3, iv3, dv3⟩ := hv
  replace h := q_be h
  obtain ⟨a4, ea4, h⟩ := h
  subst ea4
  replace h := q_be h
  obtain ⟨v5, hv, h⟩ := h
  refine ⟨⟨some _, rfl⟩, _, _, cv1, dv1, _, _, _, _, cv3, pv3, qv3, iv3, dv3, ?_⟩
  refine rJ7_fill_53178 hv ?_
  replace h := q_be h
  obtain ⟨v6, hv, h⟩ := h
  replace hv := q_fR_e hv
  obtain ⟨_, cv6, dv6⟩ := hv
  replace h := q_be h
  obtain ⟨a7, ea7, h⟩ := h
  subst ea7
  replace h := q_be h
  obtain ⟨v8, hv, h⟩ := h
  replace hv := q_aR_e hv
  obtain ⟨_, _, _, cv8, pv8, qv8, iv8, dv8⟩ := hv
  replace h := q_be h
  obtain ⟨a9, ea9, h⟩ := h
  subst ea9
  replace h := q_be h
  obtain ⟨v10, hv, h⟩ := h
  refine ⟨⟨some _, rfl⟩, _, _, cv6, dv6, _, _, _, _, cv8, pv8, qv8, iv8, dv8, ?_⟩
  refine rJ7_fill_53178 hv ?_
  replace h := q_be h
  obtain ⟨u11, hv, h⟩ := h
  replace hv := q_ob_e hv
  obtain ⟨_, cu11⟩ := hv
  replace h := q_be h
  obtain ⟨v12, hv, h⟩ := h
  refine ⟨⟨some _, rfl⟩, ⟨some _, rfl⟩, ⟨some _, rfl⟩, ⟨_, cu11⟩, ?_⟩
  refine rX10_lay (fun h hk => rX10_viewOfL h hk) hv ?_
  refine ⟨⟨_, rfl⟩, _, _, rfl, ?_⟩
  refine And.intro (fun hc13 => ?_) (fun hc13 => ?_)
  · replace h := q_ifp (hc13) h
    exact ps_weak (pjX10_together_38 h hk) ⟨(by first | rfl | (cases x3 <;> rfl)), trivial⟩
  · replace h := q_ifn (hc13) h
    replace h := q_be h
    obtain ⟨a20, ea20, h⟩ := h
    subst ea20
    replace h := q_be h
    obtain ⟨u21, hv, h⟩ := h
    replace hv := q_ob_e hv
    obtain ⟨_, cu21⟩ := hv
    replace h := q_be h
    obtain ⟨v22, hv, h⟩ := h
    refine ⟨⟨some _, rfl⟩, ⟨some _, rfl⟩, ⟨some _, rfl⟩, ⟨_, cu21⟩, ?_⟩
    refine rX10_lay (fun h hk => rX10_viewOfL h hk) hv ?_
    exact ps_weak (pjX10_together_38 h hk) ⟨rfl, trivial⟩
noncomputable def fX4_flattened (g : ps_G) (x0 : Nat) (x1 : Nat) : Option (Option Nat × ps_G) := Option.bind (fX4_init_ (q_new 4 g) g.1 x0) fun v1 => Option.bind (q_sI 4 1 v1 g.1 (0 : Int32)) fun g2 => Option.bind (q_sI 4 3 g2 g.1 (255 : Int32)) fun g3 => Option.bind (q_sI 4 4 g3 g.1 (0 : Int32)) fun g4 => Option.bind (q_sI 4 7 g4 g.1 (0 : Int32)) fun g5 => Option.bind (q_sI 4 8 g5 g.1 (0 : Int32)) fun g6 => Option.bind (q_sR 4 15 g6 g.1 (some x1)) fun g7 => Option.bind (q_sR 4 16 g7 g.1 (some 0)) fun g8 => some ((some g.1), g8)
theorem rX4_flattened {d : Nat} {Q : ps_Rs → ps_G → Prop} {g : ps_G} {x0 : Nat} {x1 : Nat} {r : Option Nat × ps_G} (h : fX4_flattened g x0 x1 = some r) (hk : Q (.inl (some (va_rf r.1))) r.2) : ps_Ok mX4_flattened (d + 2) [.ref x0, .ref x1] g Q := by
  unfold fX4_flattened at h
  refine sX4_flattened_0 ?_
  replace h := q_be h
  obtain ⟨v1, hv, h⟩ := h
  refine ⟨rfl, ⟨some _, rfl⟩, ?_⟩
  refine rX4_init_ hv ?_
  replace h := q_be h
  obtain ⟨g2, hv, h⟩ := h
  replace hv := q_sI_e hv
  obtain ⟨_, cg2, dg2, yg2⟩ := hv
  replace h := q_be h
  obtain ⟨g3, hv, h⟩ := h
  replace hv := q_sI_e hv
  obtain ⟨_, cg3, dg3, yg3⟩ := hv
  replace h := q_be h
  obtain ⟨g4, hv, h⟩ := h
  replace hv := q_sI_e hv
  obtain ⟨_, cg4, dg4, yg4⟩ := hv
  replace h := q_be h
  obtain ⟨g5, hv, h⟩ := h
  replace hv := q_sI_e hv
  obtain ⟨_, cg5, dg5, yg5⟩ := hv
  replace h := q_be h
  obtain ⟨g6, hv, h⟩ := h
  replace hv := q_sI_e hv
  obtain ⟨_, cg6, dg6, yg6⟩ := hv
  refine ⟨some _, _, rfl, by decide, ⟨some _, rfl⟩, _, cg2, dg2, rfl, rfl, _, yg2, ⟨some _, rfl⟩, _, cg3, dg3, rfl, rfl, _, yg3, ⟨some _, rfl⟩, _, cg4, dg4, rfl, rfl, _, yg4, ⟨some _, rfl⟩, _, cg5, dg5, rfl, rfl, _, yg5, ⟨some _, rfl⟩, _, cg6, dg6, rfl, rfl, _, yg6, ?_⟩
  replace h := q_be h
  obtain ⟨g7, hv, h⟩ := h
  replace hv := q_sR_e hv
  obtain ⟨_, cg7, dg7, yg7⟩ := hv
  replace h := q_be h
  obtain ⟨g8, hv, h⟩ := h
  replace hv := q_sR_e hv
  obtain ⟨_, cg8, dg8, yg8⟩ := hv
  cases h
  exact ⟨⟨some _, rfl⟩, ⟨some _, rfl⟩, _, cg7, dg7, rfl, rfl, _, yg7, ⟨some _, rfl⟩, _, cg8, dg8, rfl, rfl, _, yg8, ⟨some _, rfl⟩, some _, _, rfl, rfl, ⟨_, rfl, Or.inl ⟨_, rfl⟩⟩, hk⟩
noncomputable def jX11_flat_69 (g : ps_G) (x0 : Nat) (x1 : Int32) (x2 : Option Nat) (x4 : Option Nat) (x5 : Option Nat) : Option ((String ⊕ Unit) × ps_G) := Option.bind (x5) fun a28 => Option.bind (q_ob 9 g a28) fun u29 => Option.bind (fX9_removeInside g a28 x1) fun v30 => Option.bind (x2) fun a31 => Option.bind (x4) fun a32 => Option.bind (q_ob 4 v30 a31) fun u33 => q_b2 (fX4_flattened v30 a31 a32) fun v34 g35 => Option.bind (v34) fun a36 => Option.bind (q_ob 9 g35 a28) fun u37 => Option.bind (fX9_exchange g35 a28 a36) fun v38 => Option.bind (q_ob 11 v38 x0) fun u39 => Option.bind (fX11_become v38 x0 a28) fun v40 => some (.inr (), v40)
theorem pjX11_flat_69 {d : Nat} {Q : ps_Rs → ps_G → Prop} {g : ps_G} {x0 : Nat} {x1 : Int32} {x2 : Option Nat} {x4 : Option Nat} {x5 : Option Nat} {r : (String ⊕ Unit) × ps_G} (h : jX11_flat_69 g x0 x1 x2 x4 x5 = some r) (hk : Q (q_rV r.1) r.2) : ps_At mX11_flat (d + 102) 69 [(0, .ref x0), (1, .int x1), (2, va_rf x2), (4, va_rf x4), (5, va_rf x5)] [] g Q := by
  unfold jX11_flat_69 at h
  refine sX11_flat_69 ?_
  replace h := q_be h
  obtain ⟨a28, ea28, h⟩ := h
  subst ea28
  replace h := q_be h
  obtain ⟨u29, hv, h⟩ := h
  replace hv := q_ob_e hv
  obtain ⟨_, cu29⟩ := hv
  replace h := q_be h
  obtain ⟨v30, hv, h⟩ := h
  refine ⟨⟨some _, rfl⟩, ⟨_, cu29⟩, ?_⟩
  refine rX9_removeInside hv ?_
  replace h := q_be h
  obtain ⟨a31, ea31, h⟩ := h
  subst ea31
  replace h := q_be h
  obtain ⟨a32, ea32, h⟩ := h
  subst ea32
  replace h := q_be h
  obtain ⟨u33, hv, h⟩ := h
  replace hv := q_ob_e hv
  obtain ⟨_, cu33⟩ := hv
  replace h := q_b2_e h
  obtain ⟨v34, g35, hv, h⟩ := h
  refine ⟨⟨some _, rfl⟩, ⟨some _, rfl⟩, ⟨some _, rfl⟩, ⟨_, cu33⟩, ?_⟩
  refine rX4_flattened hv ?_
  replace h := q_be h
  obtain ⟨a36, ea36, h⟩ := h
  subst ea36
  replace h := q_be h
  obtain ⟨u37, hv, h⟩ := h
  replace hv := q_ob_e hv
  obtain ⟨_, cu37⟩ := hv
  replace h := q_be h
  obtain ⟨v38, hv, h⟩ := h
  refine ⟨⟨_, cu37⟩, ?_⟩
  refine rX9_exchange hv ?_
  replace h := q_be h
  obtain ⟨u39, hv, h⟩ := h
  replace hv := q_ob_e hv
  obtain ⟨_, cu39⟩ := hv
  replace h := q_be h
  obtain ⟨v40, hv, h⟩ := h
  refine ⟨⟨some _, rfl⟩, ⟨some _, rfl⟩, ⟨_, cu39⟩, ?_⟩
  refine rX11_become hv ?_
  cases h
  exact ⟨rfl, rfl, hk⟩
noncomputable def jX11_flat_27 (g : ps_G) (x0 : Nat) (x1 : Int32) (x2 : Option Nat) (k0 : Int32) : Option ((String ⊕ Unit) × ps_G) := q_tc (fX11_refuse g k0) fun v7 g8 => Option.bind (x2) fun a9 => Option.bind (q_ob 4 g8 a9) fun u10 => q_b2 (fX4_again g8 a9) fun v11 g12 => Option.bind (v11) fun a13 => Option.bind (q_sB 4 5 g12 a13 (1 : Int32)) fun g14 => Option.bind (q_sB 4 6 g14 a13 (0 : Int32)) fun g15 => Option.bind (q_fR 11 6 g15 x0) fun v16 => Option.bind (v16) fun a17 => Option.bind (q_fR 11 0 g15 x0) fun v18 => Option.bind (v18) fun a19 => Option.bind (q_ob 10 g15 a17) fun u20 => q_b2 (fX10_together g15 a17 a19 a13 none) fun v21 g22 => Option.bind (q_fR 11 0 g22 x0) fun v23 => Option.bind (v23) fun a24 => Option.bind (q_ob 9 g22 a24) fun u25 => q_b2 (fX9_again g22 a24) fun v26 g27 => jX11_flat_69 g27 x0 x1 (some a9) v21 v26
theorem pjX11_flat_27 {d : Nat} {Q : ps_Rs → ps_G → Prop} {g : ps_G} {x0 : Nat} {x1 : Int32} {x2 : Option Nat} {k0 : Int32} {r : (String ⊕ Unit) × ps_G} (h : jX11_flat_27 g x0 x1 x2 k0 = some r) (hk : Q (q_rV r.1) r.2) : ps_At mX11_flat (d + 102) 27 [(0, .ref x0), (1, .int x1), (2, va_rf x2)] [.int k0] g Q := by
  unfold jX11_flat_27 at h
  refine sX11_flat_27 ?_
  replace h := q_tc_e h
  rcases h with ⟨E, g8, hv, rfl⟩ | ⟨v7, g8, hv, h⟩
  · exact rX11_refuse hv ⟨rfl, hk⟩
  refine rX11_refuse hv ?_
  replace h := q_be h
  obtain ⟨a9, ea9, h⟩ := h
  subst ea9
  replace h := q_be h
  obtain ⟨u10, hv, h⟩ := h
  replace hv := q_ob_e hv
  obtain ⟨_, cu10⟩ := hv
  replace h := q_b2_e h
  obtain ⟨v11, g12, hv, h⟩ := h
  refine ⟨⟨some _, rfl⟩, ⟨_, cu10⟩, ?_⟩
  refine rX4_again hv ?_
  replace h := q_be h
  obtain ⟨a13, ea13, h⟩ := h
  subst ea13
  replace h := q_be h
  obtain ⟨g14, hv, h⟩ := h
  replace hv := q_sB_e hv
  obtain ⟨_, cg14, dg14, ng14, yg14⟩ := hv
  replace h := q_be h
  obtain ⟨g15, hv, h⟩ := h
  replace hv := q_sB_e hv
  obtain ⟨_, cg15, dg15, ng15, yg15⟩ := hv
  replace h := q_be h
  obtain ⟨v16, hv, h⟩ := h
  replace hv := q_fR_e hv
  obtain ⟨_, cv16, dv16⟩ := hv
  replace h := q_be h
  obtain ⟨a17, ea17, h⟩ := h
  subst ea17
  replace h := q_be h
  obtain ⟨v18, hv, h⟩ := h
  replace hv := q_fR_e hv
  obtain ⟨_, cv18, dv18⟩ := hv
  replace h := q_be h
  obtain ⟨a19, ea19, h⟩ := h
  subst ea19
  replace h := q_be h
  obtain ⟨u20, hv, h⟩ := h
  replace hv := q_ob_e hv
  obtain ⟨_, cu20⟩ := hv
  replace h := q_b2_e h
  obtain ⟨v21, g22, hv, h⟩ := h
  refine ⟨_, _, rfl, by decide, ⟨some _, rfl⟩, _, cg14, dg14, ng14.1, ng14.2, _, yg14, ⟨some _, rfl⟩, _, cg15, dg15, ng15.1, ng15.2, _, yg15, ⟨some _, rfl⟩, _, _, cv16, dv16, ⟨some _, rfl⟩, _, _, cv18, dv18, ⟨some _, rfl⟩, ⟨_, cu20⟩, ?_⟩
  refine rX10_together hv ?_
  replace h := q_be h
  obtain ⟨v23, hv, h⟩ := h
  replace hv := q_fR_e hv
  obtain ⟨_, cv23, dv23⟩ := hv
  replace h := q_be h
  obtain ⟨a24, ea24, h⟩ := h
  subst ea24
  replace h := q_be h
  obtain ⟨u25, hv, h⟩ := h
  replace hv := q_ob_e hv
  obtain ⟨_, cu25⟩ := hv
  replace h := q_b2_e h
  obtain ⟨v26, g27, hv, h⟩ := h
  refine ⟨_, _, rfl, by decide, ⟨some _, rfl⟩, _, _, cv23, dv23, ⟨_, cu25⟩, ?_⟩
  refine rX9_again hv ?_
  refine sX11_flat_67 ?_
  refine ⟨_, _, rfl, by decide, ?_⟩
  refine ps_weak (lv' := [(0, .ref x0), (1, .int x1), (2, .ref a9), (4, va_rf v21), (5, va_rf v26)]) ?_ ⟨(by first | rfl | (cases v21 <;> cases v26 <;> rfl)), (by first | rfl | (cases v21 <;> cases v26 <;> rfl)), (by first | rfl | (cases v21 <;> cases v26 <;> rfl)), (by first | rfl | (cases v21 <;> cases v26 <;> rfl)), (by first | rfl | (cases v21 <;> cases v26 <;> rfl)), trivial⟩
  exact ps_weak (pjX11_flat_69 h hk) ⟨(by first | rfl | (cases v21 <;> cases v26 <;> rfl)), (by first | rfl | (cases v21 <;> cases v26 <;> rfl)), (by first | rfl | (cases v21 <;> cases v26 <;> rfl)), (by first | rfl | (cases v21 <;> cases v26 <;> rfl)), (by first | rfl | (cases v21 <;> cases v26 <;> rfl)), trivial⟩
noncomputable def jX11_flat_22 (g : ps_G) (x0 : Nat) (x1 : Int32) (x2 : Option Nat) : Option ((String ⊕ Unit) × ps_G) := jX11_flat_27 g x0 x1 x2 (1 : Int32)
theorem pjX11_flat_22 {d : Nat} {Q : ps_Rs → ps_G → Prop} {g : ps_G} {x0 : Nat} {x1 : Int32} {x2 : Option Nat} {r : (String ⊕ Unit) × ps_G} (h : jX11_flat_22 g x0 x1 x2 = some r) (hk : Q (q_rV r.1) r.2) : ps_At mX11_flat (d + 102) 22 [(0, .ref x0), (1, .int x1), (2, va_rf x2)] [] g Q := by
  unfold jX11_flat_22 at h
  refine sX11_flat_22 ?_
  exact ps_weak (pjX11_flat_27 h hk) ⟨(by first | rfl | (cases x2 <;> rfl)), (by first | rfl | (cases x2 <;> rfl)), (by first | rfl | (cases x2 <;> rfl)), trivial⟩
noncomputable def fX11_flat (g : ps_G) (x0 : Nat) (x1 : Int32) : Option ((String ⊕ Unit) × ps_G) := Option.bind (q_ob 11 g x0) fun u1 => q_tc (fX11_known g x0 x1) fun v2 g3 => Option.bind (v2) fun a4 => Option.bind (q_fI 4 1 g3 a4) fun v5 => if v5 = (4 : Int32) then (jX11_flat_22 g3 x0 x1 (some a4)) else (Option.bind (q_fI 4 1 g3 a4) fun v41 => if ¬ v41 = (5 : Int32) then (jX11_flat_27 g3 x0 x1 (some a4) (0 : Int32)) else (jX11_flat_22 g3 x0 x1 (some a4)))
theorem rX11_flat {d : Nat} {Q : ps_Rs → ps_G → Prop} {g : ps_G} {x0 : Nat} {x1 : Int32} {r : (String ⊕ Unit) × ps_G} (h : fX11_flat g x0 x1 = some r) (hk : Q (q_rV r.1) r.2) : ps_Ok mX11_flat (d + 102) [.ref x0, .int x1] g Q := by
  unfold fX11_flat at h
  refine sX11_flat_0 ?_
  replace h := q_be h
  obtain ⟨u1, hv, h⟩ := h
  replace hv := q_ob_e hv
  obtain ⟨_, cu1⟩ := hv
  refine ⟨⟨some _, rfl⟩, ⟨_, cu1⟩, ?_⟩
  replace h := q_tc_e h
  rcases h with ⟨E, g3, hv, rfl⟩ | ⟨v2, g3, hv, h⟩
  · exact rX11_known hv hk
  refine rX11_known hv ?_
  replace h := q_be h
  obtain ⟨a4, ea4, h⟩ := h
  subst ea4
  replace h := q_be h
  obtain ⟨v5, hv, h⟩ := h
  replace hv := q_fI_e hv
  obtain ⟨_, cv5, dv5⟩ := hv
  refine ⟨_, _, rfl, by decide, ⟨some _, rfl⟩, _, _, cv5, dv5, ?_⟩
  refine And.intro (fun hc6 => ?_) (fun hc6 => ?_)
  · replace h := q_ifp (hc6) h
    exact ps_weak (pjX11_flat_22 h hk) ⟨rfl, rfl, rfl, trivial⟩
  · replace h := q_ifn (hc6) h
    replace h := q_be h
    obtain ⟨v41, hv, h⟩ := h
    replace hv := q_fI_e hv
    obtain ⟨_, cv41, dv41⟩ := hv
    refine ⟨⟨some _, rfl⟩, _, _, cv41, dv41, ?_⟩
    refine And.intro (fun hc42 => ?_) (fun hc42 => ?_)
    · replace h := q_ifp (hc42) h
      refine sX11_flat_26 ?_
      exact ps_weak (pjX11_flat_27 h hk) ⟨rfl, rfl, rfl, trivial⟩
    · replace h := q_ifn (hc42) h
      exact ps_weak (pjX11_flat_22 h hk) ⟨rfl, rfl, rfl, trivial⟩
noncomputable def jX0_at_41 (g : ps_G) (k0 : Int32) : Option (Int32) := some k0
theorem pjX0_at_41 {d : Nat} {Q : ps_Rs → ps_G → Prop} {g : ps_G} {k0 : Int32} {r : Int32} (h : jX0_at_41 g k0 = some r) (hk : Q (.inl (some (.int r))) g) : ps_At mX0_at d 41 [] [.int k0] g Q := by
  unfold jX0_at_41 at h
  refine sX0_at_41 ?_
  cases h
  exact ⟨rfl, hk⟩
noncomputable def jX0_at_24 (g : ps_G) : Option (Int32) := jX0_at_41 g (0 : Int32)
theorem pjX0_at_24 {d : Nat} {Q : ps_Rs → ps_G → Prop} {g : ps_G}  {r : Int32} (h : jX0_at_24 g = some r) (hk : Q (.inl (some (.int r))) g) : ps_At mX0_at d 24 [] [] g Q := by
  unfold jX0_at_24 at h
  refine sX0_at_24 ?_
  exact ps_weak (pjX0_at_41 h hk) trivial
noncomputable def fX0_at (g : ps_G) (x0 : Nat) (x1 : Int32) (x2 : Int32) : Option (Int32) := if (x1 < 0) ∨ (x2 < 0) then (jX0_at_24 g) else (Option.bind (q_fI 0 0 g x0) fun v3 => if v3 ≤ x1 then (jX0_at_24 g) else (Option.bind (q_fI 0 1 g x0) fun v5 => if x2 < v5 then (Option.bind (q_fR 0 2 g x0) fun v8 => Option.bind (v8) fun a9 => Option.bind (q_fI 0 0 g x0) fun v10 => Option.bind (q_aI g a9 ((x2 * v10) + x1)) fun v11 => jX0_at_41 g v11) else (jX0_at_24 g)))
theorem rX0_at {d : Nat} {Q : ps_Rs → ps_G → Prop} {g : ps_G} {x0 : Nat} {x1 : Int32} {x2 : Int32} {r : Int32} (h : fX0_at g x0 x1 x2 = some r) (hk : Q (.inl (some (.int r))) g) : ps_Ok mX0_at d [.ref x0, .int x1, .int x2] g Q := by
  unfold fX0_at at h
  refine sX0_at_0 ?_
  have kT16 : (jX0_at_24 g) = some r → ps_At mX0_at d 24 [] [] g Q := fun h => by
    exact ps_weak (pjX0_at_24 h hk) trivial
  refine And.intro (fun hc1 => ?_) (fun hc1 => ?_)
  · exact ps_weak (kT16 (q_ifp (Or.inl hc1) h)) trivial
  · refine And.intro (fun hc2 => ?_) (fun hc2 => ?_)
    · exact ps_weak (kT16 (q_ifp (Or.inr (hc2)) h)) trivial
    · replace h := q_ifn (not_or.mpr ⟨hc1, hc2⟩) h
      replace h := q_be h
      obtain ⟨v3, hv, h⟩ := h
      replace hv := q_fI_e hv
      obtain ⟨_, cv3, dv3⟩ := hv
      refine ⟨⟨some _, rfl⟩, _, _, cv3, dv3, ?_⟩
      refine And.intro (fun hc4 => ?_) (fun hc4 => ?_)
      · replace h := q_ifp (hc4) h
        exact ps_weak (pjX0_at_24 h hk) trivial
      · replace h := q_ifn (hc4) h
        replace h := q_be h
        obtain ⟨v5, hv, h⟩ := h
        replace hv := q_fI_e hv
        obtain ⟨_, cv5, dv5⟩ := hv
        refine ⟨⟨some _, rfl⟩, _, _, cv5, dv5, ?_⟩
        refine And.intro (fun hc6 => ?_) (fun hc6 => ?_)
        · replace h := q_ifp (hc6) h
          refine sX0_at_28 ?_
          replace h := q_be h
          obtain ⟨v8, hv, h⟩ := h
          replace hv := q_fR_e hv
          obtain ⟨_, cv8, dv8⟩ := hv
          replace h := q_be h
          obtain ⟨a9, ea9, h⟩ := h
          subst ea9
          replace h := q_be h
          obtain ⟨v10, hv, h⟩ := h
          replace hv := q_fI_e hv
          obtain ⟨_, cv10, dv10⟩ := hv
          replace h := q_be h
          obtain ⟨v11, hv, h⟩ := h
          replace hv := q_aI_e hv
          obtain ⟨_, _, cv11, iv11, yv11⟩ := hv
          refine ⟨⟨some _, rfl⟩, _, _, cv8, dv8, ⟨some _, rfl⟩, _, _, cv10, dv10, _, _, cv11, iv11, _, yv11, ?_⟩
          exact ps_weak (pjX0_at_41 h hk) trivial
        · replace h := q_ifn (hc6) h
          exact ps_weak (pjX0_at_24 h hk) trivial
noncomputable def fX11_put (g : ps_G) (x0 : Int32) (x1 : Int32) (x2 : Int32) (x3 : Int32) : Option (Int32) := if ¬ x0 = 0 then (some (if ¬ x0 = (1 : Int32) then fX11_mixColours x1 x2 x3 else (q_shl (fX11_mul (q_ush x1 (24 : Int32)) ((255 : Int32) - (fX11_mul (q_ush x2 (24 : Int32)) x3))) (24 : Int32)) ||| (x1 &&& (16777215 : Int32)))) else (Option.bind (fX11_blend g x1 x2 (fX11_mul (q_ush x2 (24 : Int32)) x3) (0 : Int32)) fun v5 => some v5)
theorem rX11_put {d : Nat} {Q : ps_Rs → ps_G → Prop} {g : ps_G} {x0 : Int32} {x1 : Int32} {x2 : Int32} {x3 : Int32} {r : Int32} (h : fX11_put g x0 x1 x2 x3 = some r) (hk : Q (.inl (some (.int r))) g) : ps_Ok mX11_put (d + 3) [.int x0, .int x1, .int x2, .int x3] g Q := by
  unfold fX11_put at h
  refine sX11_put_0 ?_
  refine rX11_mul rfl ?_
  refine ⟨by decide, ?_⟩
  refine And.intro (fun hc1 => ?_) (fun hc1 => ?_)
  · replace h := q_ifp (hc1) h
    refine sX11_put_23 ?_
    have kJ4 : ∀ w3 : Int32, w3 = (if ¬ x0 = (1 : Int32) then fX11_mixColours x1 x2 x3 else (q_shl (fX11_mul (q_ush x1 (24 : Int32)) ((255 : Int32) - (fX11_mul (q_ush x2 (24 : Int32)) x3))) (24 : Int32)) ||| (x1 &&& (16777215 : Int32))) → ps_At mX11_put (d + 3) 59 [] [.int w3] g Q := by
      rintro _ rfl
      refine sX11_put_59 ?_
      cases h
      exact ⟨rfl, hk⟩
    refine And.intro (fun hc2 => ?_) (fun hc2 => ?_)
    · refine sX11_put_53 ?_
      refine rX11_mixColours rfl ?_
      exact ps_weak (kJ4 _ (if_pos (hc2)).symm) trivial
    · refine rX11_mul rfl ?_
      exact ps_weak (kJ4 _ (if_neg (hc2)).symm) trivial
  · replace h := q_ifn (hc1) h
    replace h := q_be h
    obtain ⟨v5, hv, h⟩ := h
    refine rX11_blend hv ?_
    cases h
    exact ⟨rfl, hk⟩
noncomputable def jX10_forgetBox_75_8 (g : ps_G) (x0 : Nat) (x1 : Int32) (x2 : Int32) (x3 : Int32) (x4 : Int32) (x5 : Int32) : Option ((Int32 × ps_G) ⊕ (ps_G)) := some (.inl (x5 + (1 : Int32), g))
theorem pjX10_forgetBox_75_8 {d : Nat} {Q : ps_Rs → ps_G → Prop} {g : ps_G} {x0 : Nat} {x1 : Int32} {x2 : Int32} {x3 : Int32} {x4 : Int32} {x5 : Int32} {x : (Int32 × ps_G) ⊕ (ps_G)} (h : jX10_forgetBox_75_8 g x0 x1 x2 x3 x4 x5 = some x) (hh : ∀ s' : Int32 × ps_G, x = .inl s' → ps_At mX10_forgetBox d 8 [(0, .ref x0), (1, .int x1), (2, .int x2), (3, .int x3), (4, .int x4), (5, .int s'.1)] [] s'.2 Q) (he : ∀ r' : ps_G, x = .inr r' → ps_At mX10_forgetBox d 81 [] [] r' Q) : ps_At mX10_forgetBox d 75 [(0, .ref x0), (1, .int x1), (2, .int x2), (3, .int x3), (4, .int x4), (5, .int x5)] [] g Q := by
  unfold jX10_forgetBox_75_8 at h
  refine sX10_forgetBox_75 ?_
  refine ⟨by decide, ?_⟩
  exact ps_weak (hh (x5 + (1 : Int32), g) (Option.some.inj h).symm) ⟨rfl, rfl, rfl, rfl, rfl, rfl, trivial⟩
noncomputable def bX10_forgetBox_8 (x0 : Nat) (x1 : Int32) (x2 : Int32) (x3 : Int32) (x4 : Int32) (x5 : Int32) (g : ps_G) : Option ((Int32 × ps_G) ⊕ (ps_G)) := Option.bind (q_fR 10 7 g x0) fun v2 => Option.bind (v2) fun a3 => Option.bind (q_len g a3) fun v4 => if v4 ≤ x5 then (some (.inr g)) else (if ((((q_rem x5 (3 : Int32)) * (8 : Int32)) + (8 : Int32)) ≤ x1) ∨ ((x3 < ((q_rem x5 (3 : Int32)) * (8 : Int32))) ∨ (((((x5 / (3 : Int32)) * (8 : Int32)) + (8 : Int32)) ≤ x2) ∨ (x4 < ((x5 / (3 : Int32)) * (8 : Int32))))) then (jX10_forgetBox_75_8 g x0 x1 x2 x3 x4 x5) else (Option.bind (q_fR 10 7 g x0) fun v16 => Option.bind (v16) fun a17 => Option.bind (q_wB g a17 x5 (0 : Int32)) fun g18 => jX10_forgetBox_75_8 g18 x0 x1 x2 x3 x4 x5))
theorem pbX10_forgetBox_8 {d : Nat} {Q : ps_Rs → ps_G → Prop}  {x0 : Nat} {x1 : Int32} {x2 : Int32} {x3 : Int32} {x4 : Int32} {x5 : Int32} {g : ps_G} {x : (Int32 × ps_G) ⊕ (ps_G)} (h : bX10_forgetBox_8 x0 x1 x2 x3 x4 x5 g = some x) (hh : ∀ s' : Int32 × ps_G, x = .inl s' → ps_At mX10_forgetBox d 8 [(0, .ref x0), (1, .int x1), (2, .int x2), (3, .int x3), (4, .int x4), (5, .int s'.1)] [] s'.2 Q) (he : ∀ r' : ps_G, x = .inr r' → ps_At mX10_forgetBox d 81 [] [] r' Q) : ps_At mX10_forgetBox d 8 [(0, .ref x0), (1, .int x1), (2, .int x2), (3, .int x3), (4, .int x4), (5, .int x5)] [] g Q := by
  unfold bX10_forgetBox_8 at h
  refine sX10_forgetBox_8 ?_
  replace h := q_be h
  obtain ⟨v2, hv, h⟩ := h
  replace hv := q_fR_e hv
  obtain ⟨_, cv2, dv2⟩ := hv
  replace h := q_be h
  obtain ⟨a3, ea3, h⟩ := h
  subst ea3
  replace h := q_be h
  obtain ⟨v4, hv, h⟩ := h
  replace hv := q_len_e hv
  obtain ⟨_, _, cv4, qv4, yv4⟩ := hv
  refine ⟨⟨some _, rfl⟩, _, _, cv2, dv2, _, _, cv4, qv4, _, yv4, ?_⟩
  refine And.intro (fun hc5 => ?_) (fun hc5 => ?_)
  · replace h := q_ifp (hc5) h
    exact ps_weak (he g (Option.some.inj h).symm) trivial
  · replace h := q_ifn (hc5) h
    have kT19 : (jX10_forgetBox_75_8 g x0 x1 x2 x3 x4 x5) = some x → ps_At mX10_forgetBox d 75 [(0, .ref x0), (1, .int x1), (2, .int x2), (3, .int x3), (4, .int x4), (5, .int x5)] [] g Q := fun h => by
      exact ps_weak (pjX10_forgetBox_75_8 h hh he) ⟨rfl, rfl, rfl, rfl, rfl, rfl, trivial⟩
    refine ⟨by decide, _, rfl, by decide, by decide, _, rfl, by decide, ?_⟩
    refine And.intro (fun hc11 => ?_) (fun hc11 => ?_)
    · exact ps_weak (kT19 (q_ifp (Or.inl hc11) h)) ⟨rfl, rfl, rfl, rfl, rfl, rfl, trivial⟩
    · refine And.intro (fun hc12 => ?_) (fun hc12 => ?_)
      · exact ps_weak (kT19 (q_ifp (Or.inr (Or.inl hc12)) h)) ⟨rfl, rfl, rfl, rfl, rfl, rfl, trivial⟩
      · refine And.intro (fun hc13 => ?_) (fun hc13 => ?_)
        · exact ps_weak (kT19 (q_ifp (Or.inr (Or.inr (Or.inl hc13))) h)) ⟨rfl, rfl, rfl, rfl, rfl, rfl, trivial⟩
        · refine And.intro (fun hc14 => ?_) (fun hc14 => ?_)
          · exact ps_weak (kT19 (q_ifp (Or.inr (Or.inr (Or.inr (hc14)))) h)) ⟨rfl, rfl, rfl, rfl, rfl, rfl, trivial⟩
          · replace h := q_ifn (not_or.mpr ⟨hc11, not_or.mpr ⟨hc12, not_or.mpr ⟨hc13, hc14⟩⟩⟩) h
            replace h := q_be h
            obtain ⟨v16, hv, h⟩ := h
            replace hv := q_fR_e hv
            obtain ⟨_, cv16, dv16⟩ := hv
            replace h := q_be h
            obtain ⟨a17, ea17, h⟩ := h
            subst ea17
            replace h := q_be h
            obtain ⟨g18, hv, h⟩ := h
            replace hv := q_wB_e hv
            obtain ⟨_, _, cg18, ig18, yg18⟩ := hv
            refine ⟨⟨some _, rfl⟩, _, _, cv16, dv16, _, _, cg18, ig18, _, yg18, ?_⟩
            exact ps_weak (pjX10_forgetBox_75_8 h hh he) ⟨rfl, rfl, rfl, rfl, rfl, rfl, trivial⟩
noncomputable def fX10_forgetBox (g : ps_G) (x0 : Nat) (x1 : Int32) (x2 : Int32) (x3 : Int32) (x4 : Int32) : Option (ps_G) := Option.bind (q_sB 10 5 g x0 (0 : Int32)) fun g1 => Option.bind (q_lp (fun s => bX10_forgetBox_8 x0 x1 x2 x3 x4 s.1 s.2) ((0 : Int32), g1)) fun s23 => some s23
theorem rX10_forgetBox {d : Nat} {Q : ps_Rs → ps_G → Prop} {g : ps_G} {x0 : Nat} {x1 : Int32} {x2 : Int32} {x3 : Int32} {x4 : Int32} {r : ps_G} (h : fX10_forgetBox g x0 x1 x2 x3 x4 = some r) (hk : Q (.inl none) r) : ps_Ok mX10_forgetBox d [.ref x0, .int x1, .int x2, .int x3, .int x4] g Q := by
  unfold fX10_forgetBox at h
  refine sX10_forgetBox_0 ?_
  replace h := q_be h
  obtain ⟨g1, hv, h⟩ := h
  replace hv := q_sB_e hv
  obtain ⟨_, cg1, dg1, ng1, yg1⟩ := hv
  refine ⟨⟨some _, rfl⟩, _, cg1, dg1, ng1.1, ng1.2, _, yg1, by decide, ?_⟩
  replace h := q_be h
  obtain ⟨s23, hl, h⟩ := h
  refine ps_weak (q_lp_ok hl (fun s => ps_At mX10_forgetBox d 8 [(0, .ref x0), (1, .int x1), (2, .int x2), (3, .int x3), (4, .int x4), (5, .int s.1)] [] s.2 Q) (fun r => ps_At mX10_forgetBox d 81 [] [] r Q) (fun s x hb hh he => pbX10_forgetBox_8 hb hh he) ?_) ⟨rfl, rfl, rfl, rfl, rfl, rfl, trivial⟩
  refine (?_ : ps_At mX10_forgetBox d 81 [] [] s23 Q)
  refine sX10_forgetBox_81 ?_
  cases h
  exact ⟨rfl, rfl, hk⟩
noncomputable def bX11_repaint_45 (g : ps_G) (x0 : Nat) (x1 : Nat) (x2 : Nat) (x3 : Option Nat) (x9 : Int32) (x4 : Int32) (x5 : Int32) (x6 : Int32) (x7 : Int32) (x8 : Int32) (x10 : Int32) : Option ((Int32 × Int32 × Int32 × Int32 × Int32 × Int32) ⊕ (Int32 × Int32 × Int32 × Int32 × Int32)) := Option.bind (q_fR 11 0 g x0) fun v10 => Option.bind (v10) fun a11 => Option.bind (q_fI 9 0 g a11) fun v12 => if v12 ≤ x10 then (some (.inr (x4, x5, x6, x7, x8))) else (Option.bind (q_fR 11 0 g x0) fun v15 => Option.bind (v15) fun a16 => Option.bind (q_fI 9 0 g a16) fun v17 => Option.bind (q_aI g x2 ((x9 * v17) + x10)) fun v18 => Option.bind (q_fR 4 15 g x1) fun v19 => Option.bind (v19) fun a20 => Option.bind (q_aI g a20 ((x9 * v17) + x10)) fun v21 => some (.inl ((if v18 = v21 then x4 else fJ9_min_7cf53 x4 x10), (if v18 = v21 then x5 else fJ9_max_7cf53 x5 x10), (if v18 = v21 then x6 else fJ9_min_7cf53 x6 x9), (if v18 = v21 then x7 else fJ9_max_7cf53 x7 x9), (if v18 = v21 then x8 else x8 + (1 : Int32)), x10 + (1 : Int32))))
theorem pbX11_repaint_45 {d : Nat} {Q : ps_Rs → ps_G → Prop} {g : ps_G} {x0 : Nat} {x1 : Nat} {x2 : Nat} {x3 : Option Nat} {x9 : Int32} {x4 : Int32} {x5 : Int32} {x6 : Int32} {x7 : Int32} {x8 : Int32} {x10 : Int32} {x : (Int32 × Int32 × Int32 × Int32 × Int32 × Int32) ⊕ (Int32 × Int32 × Int32 × Int32 × Int32)} (h : bX11_repaint_45 g x0 x1 x2 x3 x9 x4 x5 x6 x7 x8 x10 = some x) (hh : ∀ s' : Int32 × Int32 × Int32 × Int32 × Int32 × Int32, x = .inl s' → ps_At mX11_repaint (d + 3) 45 [(0, .ref x0), (1, .ref x1), (2, .ref x2), (3, va_rf x3), (4, .int s'.1), (5, .int s'.2.1), (6, .int s'.2.2.1), (7, .int s'.2.2.2.1), (8, .int s'.2.2.2.2.1), (9, .int x9), (10, .int s'.2.2.2.2.2)] [] g Q) (he : ∀ r' : Int32 × Int32 × Int32 × Int32 × Int32, x = .inr r' → ps_At mX11_repaint (d + 3) 131 [(0, .ref x0), (1, .ref x1), (2, .ref x2), (3, va_rf x3), (4, .int r'.1), (5, .int r'.2.1), (6, .int r'.2.2.1), (7, .int r'.2.2.2.1), (8, .int r'.2.2.2.2), (9, .int x9)] [] g Q) : ps_At mX11_repaint (d + 3) 45 [(0, .ref x0), (1, .ref x1), (2, .ref x2), (3, va_rf x3), (4, .int x4), (5, .int x5), (6, .int x6), (7, .int x7), (8, .int x8), (9, .int x9), (10, .int x10)] [] g Q := by
  unfold bX11_repaint_45 at h
  refine sX11_repaint_45 ?_
  replace h := q_be h
  obtain ⟨v10, hv, h⟩ := h
  replace hv := q_fR_e hv
  obtain ⟨_, cv10, dv10⟩ := hv
  replace h := q_be h
  obtain ⟨a11, ea11, h⟩ := h
  subst ea11
  replace h := q_be h
  obtain ⟨v12, hv, h⟩ := h
  replace hv := q_fI_e hv
  obtain ⟨_, cv12, dv12⟩ := hv
  refine ⟨⟨some _, rfl⟩, _, _, cv10, dv10, _, _, cv12, dv12, ?_⟩
  refine And.intro (fun hc13 => ?_) (fun hc13 => ?_)
  · replace h := q_ifp (hc13) h
    exact ps_weak (he (x4, x5, x6, x7, x8) (Option.some.inj h).symm) ⟨(by first | rfl | (cases x3 <;> rfl)), (by first | rfl | (cases x3 <;> rfl)), (by first | rfl | (cases x3 <;> rfl)), (by first | rfl | (cases x3 <;> rfl)), (by first | rfl | (cases x3 <;> rfl)), (by first | rfl | (cases x3 <;> rfl)), (by first | rfl | (cases x3 <;> rfl)), (by first | rfl | (cases x3 <;> rfl)), (by first | rfl | (cases x3 <;> rfl)), (by first | rfl | (cases x3 <;> rfl)), trivial⟩
  · replace h := q_ifn (hc13) h
    replace h := q_be h
    obtain ⟨v15, hv, h⟩ := h
    replace hv := q_fR_e hv
    obtain ⟨_, cv15, dv15⟩ := hv
    replace h := q_be h
    obtain ⟨a16, ea16, h⟩ := h
    subst ea16
    replace h := q_be h
    obtain ⟨v17, hv, h⟩ := h
    replace hv := q_fI_e hv
    obtain ⟨_, cv17, dv17⟩ := hv
    replace h := q_be h
    obtain ⟨v18, hv, h⟩ := h
    replace hv := q_aI_e hv
    obtain ⟨_, _, cv18, iv18, yv18⟩ := hv
    replace h := q_be h
    obtain ⟨v19, hv, h⟩ := h
    replace hv := q_fR_e hv
    obtain ⟨_, cv19, dv19⟩ := hv
    replace h := q_be h
    obtain ⟨a20, ea20, h⟩ := h
    subst ea20
    replace h := q_be h
    obtain ⟨v21, hv, h⟩ := h
    replace hv := q_aI_e hv
    obtain ⟨_, _, cv21, iv21, yv21⟩ := hv
    have kJ28 : ∀ w23 : Int32, w23 = (if v18 = v21 then x4 else fJ9_min_7cf53 x4 x10) → ∀ w24 : Int32, w24 = (if v18 = v21 then x5 else fJ9_max_7cf53 x5 x10) → ∀ w25 : Int32, w25 = (if v18 = v21 then x6 else fJ9_min_7cf53 x6 x9) → ∀ w26 : Int32, w26 = (if v18 = v21 then x7 else fJ9_max_7cf53 x7 x9) → ∀ w27 : Int32, w27 = (if v18 = v21 then x8 else x8 + (1 : Int32)) → ps_At mX11_repaint (d + 3) 125 [(0, .ref x0), (1, .ref x1), (2, .ref x2), (3, va_rf x3), (4, .int w23), (5, .int w24), (6, .int w25), (7, .int w26), (8, .int w27), (9, .int x9), (10, .int x10)] [] g Q := by
      rintro _ rfl _ rfl _ rfl _ rfl _ rfl
      refine sX11_repaint_125 ?_
      refine ⟨by decide, ?_⟩
      exact ps_weak (hh ((if v18 = v21 then x4 else fJ9_min_7cf53 x4 x10), (if v18 = v21 then x5 else fJ9_max_7cf53 x5 x10), (if v18 = v21 then x6 else fJ9_min_7cf53 x6 x9), (if v18 = v21 then x7 else fJ9_max_7cf53 x7 x9), (if v18 = v21 then x8 else x8 + (1 : Int32)), x10 + (1 : Int32)) (Option.some.inj h).symm) ⟨(by first | rfl | (cases x3 <;> rfl)), (by first | rfl | (cases x3 <;> rfl)), (by first | rfl | (cases x3 <;> rfl)), (by first | rfl | (cases x3 <;> rfl)), (by first | rfl | (cases x3 <;> rfl)), (by first | rfl | (cases x3 <;> rfl)), (by first | rfl | (cases x3 <;> rfl)), (by first | rfl | (cases x3 <;> rfl)), (by first | rfl | (cases x3 <;> rfl)), (by first | rfl | (cases x3 <;> rfl)), (by first | rfl | (cases x3 <;> rfl)), trivial⟩
    refine ⟨⟨some _, rfl⟩, _, _, cv15, dv15, _, _, cv17, dv17, by decide, ⟨some _, rfl⟩, _, _, cv18, iv18, _, yv18, ⟨some _, rfl⟩, _, _, cv19, dv19, _, _, cv21, iv21, _, yv21, ?_⟩
    refine And.intro (fun hc22 => ?_) (fun hc22 => ?_)
    · exact ps_weak (kJ28 _ (if_pos (hc22)).symm _ (if_pos (hc22)).symm _ (if_pos (hc22)).symm _ (if_pos (hc22)).symm _ (if_pos (hc22)).symm) ⟨(by first | rfl | (cases x3 <;> rfl)), (by first | rfl | (cases x3 <;> rfl)), (by first | rfl | (cases x3 <;> rfl)), (by first | rfl | (cases x3 <;> rfl)), (by first | rfl | (cases x3 <;> rfl)), (by first | rfl | (cases x3 <;> rfl)), (by first | rfl | (cases x3 <;> rfl)), (by first | rfl | (cases x3 <;> rfl)), (by first | rfl | (cases x3 <;> rfl)), (by first | rfl | (cases x3 <;> rfl)), (by first | rfl | (cases x3 <;> rfl)), trivial⟩
    · refine ⟨by decide, ?_⟩
      refine rJ9_min_7cf53 rfl ?_
      refine ⟨by decide, ?_⟩
      refine ps_weak (lv' := [(0, .ref x0), (1, .ref x1), (2, .ref x2), (3, va_rf x3), (4, .int (fJ9_min_7cf53 x4 x10)), (5, .int x5), (6, .int x6), (7, .int x7), (8, .int (x8 + (1 : Int32))), (9, .int x9), (10, .int x10)]) ?_ ⟨(by first | rfl | (cases x3 <;> rfl)), (by first | rfl | (cases x3 <;> rfl)), (by first | rfl | (cases x3 <;> rfl)), (by first | rfl | (cases x3 <;> rfl)), (by first | rfl | (cases x3 <;> rfl)), (by first | rfl | (cases x3 <;> rfl)), (by first | rfl | (cases x3 <;> rfl)), (by first | rfl | (cases x3 <;> rfl)), (by first | rfl | (cases x3 <;> rfl)), (by first | rfl | (cases x3 <;> rfl)), (by first | rfl | (cases x3 <;> rfl)), trivial⟩
      refine sX11_repaint_98 ?_
      refine rJ9_max_7cf53 rfl ?_
      refine ⟨by decide, ?_⟩
      refine rJ9_min_7cf53 rfl ?_
      refine ⟨by decide, ?_⟩
      refine rJ9_max_7cf53 rfl ?_
      refine ⟨by decide, ?_⟩
      exact ps_weak (kJ28 _ (if_neg (hc22)).symm _ (if_neg (hc22)).symm _ (if_neg (hc22)).symm _ (if_neg (hc22)).symm _ (if_neg (hc22)).symm) ⟨(by first | rfl | (cases x3 <;> rfl)), (by first | rfl | (cases x3 <;> rfl)), (by first | rfl | (cases x3 <;> rfl)), (by first | rfl | (cases x3 <;> rfl)), (by first | rfl | (cases x3 <;> rfl)), (by first | rfl | (cases x3 <;> rfl)), (by first | rfl | (cases x3 <;> rfl)), (by first | rfl | (cases x3 <;> rfl)), (by first | rfl | (cases x3 <;> rfl)), (by first | rfl | (cases x3 <;> rfl)), (by first | rfl | (cases x3 <;> rfl)), trivial⟩
noncomputable def bX11_repaint_30 (g : ps_G) (x0 : Nat) (x1 : Nat) (x2 : Nat) (x3 : Option Nat) (x4 : Int32) (x5 : Int32) (x6 : Int32) (x7 : Int32) (x8 : Int32) (x9 : Int32) : Option ((Int32 × Int32 × Int32 × Int32 × Int32 × Int32) ⊕ (Int32 × Int32 × Int32 × Int32 × Int32)) := Option.bind (q_fR 11 0 g x0) fun v6 => Option.bind (v6) fun a7 => Option.bind (q_fI 9 1 g a7) fun v8 => if v8 ≤ x9 then (some (.inr (x4, x5, x6, x7, x8))) else (Option.bind (q_lp (fun s => bX11_repaint_45 g x0 x1 x2 x3 x9 s.1 s.2.1 s.2.2.1 s.2.2.2.1 s.2.2.2.2.1 s.2.2.2.2.2) (x4, x5, x6, x7, x8, (0 : Int32))) fun s31 => some (.inl (s31.1, s31.2.1, s31.2.2.1, s31.2.2.2.1, s31.2.2.2.2, x9 + (1 : Int32))))
theorem pbX11_repaint_30 {d : Nat} {Q : ps_Rs → ps_G → Prop} {g : ps_G} {x0 : Nat} {x1 : Nat} {x2 : Nat} {x3 : Option Nat} {x4 : Int32} {x5 : Int32} {x6 : Int32} {x7 : Int32} {x8 : Int32} {x9 : Int32} {x : (Int32 × Int32 × Int32 × Int32 × Int32 × Int32) ⊕ (Int32 × Int32 × Int32 × Int32 × Int32)} (h : bX11_repaint_30 g x0 x1 x2 x3 x4 x5 x6 x7 x8 x9 = some x) (hh : ∀ s' : Int32 × Int32 × Int32 × Int32 × Int32 × Int32, x = .inl s' → ps_At mX11_repaint (d + 3) 30 [(0, .ref x0), (1, .ref x1), (2, .ref x2), (3, va_rf x3), (4, .int s'.1), (5, .int s'.2.1), (6, .int s'.2.2.1), (7, .int s'.2.2.2.1), (8, .int s'.2.2.2.2.1), (9, .int s'.2.2.2.2.2)] [] g Q) (he : ∀ r' : Int32 × Int32 × Int32 × Int32 × Int32, x = .inr r' → ps_At mX11_repaint (d + 3) 137 [(0, .ref x0), (1, .ref x1), (3, va_rf x3), (4, .int r'.1), (5, .int r'.2.1), (6, .int r'.2.2.1), (7, .int r'.2.2.2.1), (8, .int r'.2.2.2.2)] [] g Q) : ps_At mX11_repaint (d + 3) 30 [(0, .ref x0), (1, .ref x1), (2, .ref x2), (3, va_rf x3), (4, .int x4), (5, .int x5), (6, .int x6), (7, .int x7), (8, .int x8), (9, .int x9)] [] g Q := by
  unfold bX11_repaint_30 at h
  refine sX11_repaint_30 ?_
  replace h := q_be h
  obtain ⟨v6, hv, h⟩ := h
  replace hv := q_fR_e hv
  obtain ⟨_, cv6, dv6⟩ := hv
  replace h := q_be h
  obtain ⟨a7, ea7, h⟩ := h
  subst ea7
  replace h := q_be h
  obtain ⟨v8, hv, h⟩ := h
  replace hv := q_fI_e hv
  obtain ⟨_, cv8, dv8⟩ := hv
  refine ⟨⟨some _, rfl⟩, _, _, cv6, dv6, _, _, cv8, dv8, ?_⟩
  refine And.intro (fun hc9 => ?_) (fun hc9 => ?_)
  · replace h := q_ifp (hc9) h
    exact ps_weak (he (x4, x5, x6, x7, x8) (Option.some.inj h).symm) ⟨(by first | rfl | (cases x3 <;> rfl)), (by first | rfl | (cases x3 <;> rfl)), (by first | rfl | (cases x3 <;> rfl)), (by first | rfl | (cases x3 <;> rfl)), (by first | rfl | (cases x3 <;> rfl)), (by first | rfl | (cases x3 <;> rfl)), (by first | rfl | (cases x3 <;> rfl)), (by first | rfl | (cases x3 <;> rfl)), trivial⟩
  · replace h := q_ifn (hc9) h
    refine ⟨by decide, ?_⟩
    replace h := q_be h
    obtain ⟨s31, hl, h⟩ := h
    refine ps_weak (q_lp_ok hl (fun s => ps_At mX11_repaint (d + 3) 45 [(0, .ref x0), (1, .ref x1), (2, .ref x2), (3, va_rf x3), (4, .int s.1), (5, .int s.2.1), (6, .int s.2.2.1), (7, .int s.2.2.2.1), (8, .int s.2.2.2.2.1), (9, .int x9), (10, .int s.2.2.2.2.2)] [] g Q) (fun r => ps_At mX11_repaint (d + 3) 131 [(0, .ref x0), (1, .ref x1), (2, .ref x2), (3, va_rf x3), (4, .int r.1), (5, .int r.2.1), (6, .int r.2.2.1), (7, .int r.2.2.2.1), (8, .int r.2.2.2.2), (9, .int x9)] [] g Q) (fun s x hb hh he => pbX11_repaint_45 hb hh he) ?_) ⟨(by first | rfl | (cases x3 <;> rfl)), (by first | rfl | (cases x3 <;> rfl)), (by first | rfl | (cases x3 <;> rfl)), (by first | rfl | (cases x3 <;> rfl)), (by first | rfl | (cases x3 <;> rfl)), (by first | rfl | (cases x3 <;> rfl)), (by first | rfl | (cases x3 <;> rfl)), (by first | rfl | (cases x3 <;> rfl)), (by first | rfl | (cases x3 <;> rfl)), (by first | rfl | (cases x3 <;> rfl)), (by first | rfl | (cases x3 <;> rfl)), trivial⟩
    refine (?_ : ps_At mX11_repaint (d + 3) 131 [(0, .ref x0), (1, .ref x1), (2, .ref x2), (3, va_rf x3), (4, .int s31.1), (5, .int s31.2.1), (6, .int s31.2.2.1), (7, .int s31.2.2.2.1), (8, .int s31.2.2.2.2), (9, .int x9)] [] g Q)
    refine sX11_repaint_131 ?_
    refine ⟨by decide, ?_⟩
    exact ps_weak (hh (s31.1, s31.2.1, s31.2.2.1, s31.2.2.2.1, s31.2.2.2.2, x9 + (1 : Int32)) (Option.some.inj h).symm) ⟨(by first | rfl | (cases x3 <;> rfl)), (by first | rfl | (cases x3 <;> rfl)), (by first | rfl | (cases x3 <;> rfl)), (by first | rfl | (cases x3 <;> rfl)), (by first | rfl | (cases x3 <;> rfl)), (by first | rfl | (cases x3 <;> rfl)), (by first | rfl | (cases x3 <;> rfl)), (by first | rfl | (cases x3 <;> rfl)), (by first | rfl | (cases x3 <;> rfl)), (by first | rfl | (cases x3 <;> rfl)), trivial⟩
noncomputable def jX11_repaint_198 (g : ps_G) (x0 : Nat) (x3 : Option Nat) (x8 : Int32) : Option (Int32 × ps_G) := Option.bind (q_fR 11 0 g x0) fun v37 => Option.bind (v37) fun a38 => Option.bind (q_ob 9 g a38) fun u39 => q_b2 (fX9_again g a38) fun v40 g41 => Option.bind (v40) fun a42 => Option.bind (x3) fun a43 => Option.bind (q_ob 9 g41 a42) fun u44 => Option.bind (fX9_exchange g41 a42 a43) fun v45 => Option.bind (q_ob 11 v45 x0) fun u46 => Option.bind (fX11_remember v45 x0 a42) fun v47 => some (x8, v47)
theorem pjX11_repaint_198 {d : Nat} {Q : ps_Rs → ps_G → Prop} {g : ps_G} {x0 : Nat} {x3 : Option Nat} {x8 : Int32} {r : Int32 × ps_G} (h : jX11_repaint_198 g x0 x3 x8 = some r) (hk : Q (.inl (some (.int r.1))) r.2) : ps_At mX11_repaint (d + 3) 198 [(0, .ref x0), (3, va_rf x3), (8, .int x8)] [] g Q := by
  unfold jX11_repaint_198 at h
  refine sX11_repaint_198 ?_
  replace h := q_be h
  obtain ⟨v37, hv, h⟩ := h
  replace hv := q_fR_e hv
  obtain ⟨_, cv37, dv37⟩ := hv
  replace h := q_be h
  obtain ⟨a38, ea38, h⟩ := h
  subst ea38
  replace h := q_be h
  obtain ⟨u39, hv, h⟩ := h
  replace hv := q_ob_e hv
  obtain ⟨_, cu39⟩ := hv
  replace h := q_b2_e h
  obtain ⟨v40, g41, hv, h⟩ := h
  refine ⟨⟨some _, rfl⟩, _, _, cv37, dv37, ⟨_, cu39⟩, ?_⟩
  refine rX9_again hv ?_
  replace h := q_be h
  obtain ⟨a42, ea42, h⟩ := h
  subst ea42
  replace h := q_be h
  obtain ⟨a43, ea43, h⟩ := h
  subst ea43
  replace h := q_be h
  obtain ⟨u44, hv, h⟩ := h
  replace hv := q_ob_e hv
  obtain ⟨_, cu44⟩ := hv
  replace h := q_be h
  obtain ⟨v45, hv, h⟩ := h
  refine ⟨_, _, rfl, by decide, ⟨some _, rfl⟩, ⟨some _, rfl⟩, ⟨_, cu44⟩, ?_⟩
  refine rX9_exchange hv ?_
  replace h := q_be h
  obtain ⟨u46, hv, h⟩ := h
  replace hv := q_ob_e hv
  obtain ⟨_, cu46⟩ := hv
  replace h := q_be h
  obtain ⟨v47, hv, h⟩ := h
  refine ⟨⟨some _, rfl⟩, ⟨some _, rfl⟩, ⟨_, cu46⟩, ?_⟩
  refine rX11_remember hv ?_
  cases h
  exact ⟨rfl, hk⟩
noncomputable def fX11_repaint (g : ps_G) (x0 : Nat) (x1 : Nat) (x2 : Nat) : Option (Int32 × ps_G) := Option.bind (q_ob 4 g x1) fun u1 => q_b2 (fX4_again g x1) fun v2 g3 => Option.bind (v2) fun a4 => Option.bind (q_sR 4 15 g3 a4 (some x2)) fun g5 => Option.bind (q_lp (fun s => bX11_repaint_30 g5 x0 x1 x2 (some a4) s.1 s.2.1 s.2.2.1 s.2.2.2.1 s.2.2.2.2.1 s.2.2.2.2.2) ((24 : Int32), (-1 : Int32), (24 : Int32), (-1 : Int32), (0 : Int32), (0 : Int32))) fun s34 => if s34.2.2.2.2 ≤ 0 then (jX11_repaint_198 g5 x0 (some a4) s34.2.2.2.2) else (Option.bind (q_fR 11 0 g5 x0) fun v48 => Option.bind (v48) fun a49 => Option.bind (q_ob 9 g5 a49) fun u50 => Option.bind (fX9_reach g5 a49) fun v51 => Option.bind (q_fR 11 6 g5 x0) fun v52 => Option.bind (v52) fun a53 => Option.bind (q_fI 4 7 g5 x1) fun v54 => Option.bind (q_fI 4 8 g5 x1) fun v55 => Option.bind (q_fI 4 7 g5 x1) fun v56 => Option.bind (q_fI 4 8 g5 x1) fun v57 => Option.bind (q_ob 10 g5 a53) fun u58 => Option.bind (fX10_forgetBox g5 a53 ((s34.1 + v54) - v51) ((s34.2.2.1 + v55) - v51) ((s34.2.1 + v56) + v51) ((s34.2.2.2.1 + v57) + v51)) fun v59 => jX11_repaint_198 v59 x0 (some a4) s34.2.2.2.2)
theorem rX11_repaint {d : Nat} {Q : ps_Rs → ps_G → Prop} {g : ps_G} {x0 : Nat} {x1 : Nat} {x2 : Nat} {r : Int32 × ps_G} (h : fX11_repaint g x0 x1 x2 = some r) (hk : Q (.inl (some (.int r.1))) r.2) : ps_Ok mX11_repaint (d + 3) [.ref x0, .ref x1, .ref x2] g Q := by
  unfold fX11_repaint at h
  refine sX11_repaint_0 ?_
  replace h := q_be h
  obtain ⟨u1, hv, h⟩ := h
  replace hv := q_ob_e hv
  obtain ⟨_, cu1⟩ := hv
  replace h := q_b2_e h
  obtain ⟨v2, g3, hv, h⟩ := h
  refine ⟨⟨some _, rfl⟩, ⟨_, cu1⟩, ?_⟩
  refine rX4_again hv ?_
  replace h := q_be h
  obtain ⟨a4, ea4, h⟩ := h
  subst ea4
  replace h := q_be h
  obtain ⟨g5, hv, h⟩ := h
  replace hv := q_sR_e hv
  obtain ⟨_, cg5, dg5, yg5⟩ := hv
  refine ⟨_, _, rfl, by decide, ⟨some _, rfl⟩, ⟨some _, rfl⟩, _, cg5, dg5, rfl, rfl, _, yg5, by decide, by decide, by decide, by decide, by decide, by decide, ?_⟩
  replace h := q_be h
  obtain ⟨s34, hl, h⟩ := h
  refine ps_weak (q_lp_ok hl (fun s => ps_At mX11_repaint (d + 3) 30 [(0, .ref x0), (1, .ref x1), (2, .ref x2), (3, va_rf (some a4)), (4, .int s.1), (5, .int s.2.1), (6, .int s.2.2.1), (7, .int s.2.2.2.1), (8, .int s.2.2.2.2.1), (9, .int s.2.2.2.2.2)] [] g5 Q) (fun r => ps_At mX11_repaint (d + 3) 137 [(0, .ref x0), (1, .ref x1), (3, va_rf (some a4)), (4, .int r.1), (5, .int r.2.1), (6, .int r.2.2.1), (7, .int r.2.2.2.1), (8, .int r.2.2.2.2)] [] g5 Q) (fun s x hb hh he => pbX11_repaint_30 hb hh he) ?_) ⟨rfl, rfl, rfl, rfl, rfl, rfl, rfl, rfl, rfl, rfl, trivial⟩
  refine (?_ : ps_At mX11_repaint (d + 3) 137 [(0, .ref x0), (1, .ref x1), (3, va_rf (some a4)), (4, .int s34.1), (5, .int s34.2.1), (6, .int s34.2.2.1), (7, .int s34.2.2.2.1), (8, .int s34.2.2.2.2)] [] g5 Q)
  refine sX11_repaint_137 ?_
  refine And.intro (fun hc35 => ?_) (fun hc35 => ?_)
  · replace h := q_ifp (hc35) h
    exact ps_weak (pjX11_repaint_198 h hk) ⟨rfl, rfl, rfl, trivial⟩
  · replace h := q_ifn (hc35) h
    replace h := q_be h
    obtain ⟨v48, hv, h⟩ := h
    replace hv := q_fR_e hv
    obtain ⟨_, cv48, dv48⟩ := hv
    replace h := q_be h
    obtain ⟨a49, ea49, h⟩ := h
    subst ea49
    replace h := q_be h
    obtain ⟨u50, hv, h⟩ := h
    replace hv := q_ob_e hv
    obtain ⟨_, cu50⟩ := hv
    replace h := q_be h
    obtain ⟨v51, hv, h⟩ := h
    refine ⟨⟨some _, rfl⟩, _, _, cv48, dv48, ⟨_, cu50⟩, ?_⟩
    refine rX9_reach hv ?_
    replace h := q_be h
    obtain ⟨v52, hv, h⟩ := h
    replace hv := q_fR_e hv
    obtain ⟨_, cv52, dv52⟩ := hv
    replace h := q_be h
    obtain ⟨a53, ea53, h⟩ := h
    subst ea53
    replace h := q_be h
    obtain ⟨v54, hv, h⟩ := h
    replace hv := q_fI_e hv
    obtain ⟨_, cv54, dv54⟩ := hv
    replace h := q_be h
    obtain ⟨v55, hv, h⟩ := h
    replace hv := q_fI_e hv
    obtain ⟨_, cv55, dv55⟩ := hv
    replace h := q_be h
    obtain ⟨v56, hv, h⟩ := h
    replace hv := q_fI_e hv
    obtain ⟨_, cv56, dv56⟩ := hv
    replace h := q_be h
    obtain ⟨v57, hv, h⟩ := h
    replace hv := q_fI_e hv
    obtain ⟨_, cv57, dv57⟩ := hv
    replace h := q_be h
    obtain ⟨u58, hv, h⟩ := h
    replace hv := q_ob_e hv
    obtain ⟨_, cu58⟩ := hv
    replace h := q_be h
    obtain ⟨v59, hv, h⟩ := h
    refine ⟨by decide, ⟨some _, rfl⟩, _, _, cv52, dv52, ⟨some _, rfl⟩, _, _, cv54, dv54, ⟨some _, rfl⟩, _, _, cv55, dv55, ⟨some _, rfl⟩, _, _, cv56, dv56, ⟨some _, rfl⟩, _, _, cv57, dv57, ⟨_, cu58⟩, ?_⟩
    refine rX10_forgetBox hv ?_
    exact ps_weak (pjX11_repaint_198 h hk) ⟨rfl, rfl, rfl, trivial⟩
noncomputable def bX11_fill_37 (x0 : Nat) (x2 : Int32) (x3 : Option Nat) (x4 : Nat) (x5 : Int32) (x6 : Int32) (g : ps_G) : Option ((Int32 × ps_G) ⊕ (ps_G)) := Option.bind (q_fR 11 0 g x0) fun v11 => Option.bind (v11) fun a12 => Option.bind (q_fI 9 0 g a12) fun v13 => if v13 ≤ x6 then (some (.inr g)) else (Option.bind (q_fR 11 0 g x0) fun v16 => Option.bind (v16) fun a17 => Option.bind (q_fI 9 0 g a17) fun v18 => Option.bind (x3) fun a19 => Option.bind (q_fR 4 15 g a19) fun v20 => Option.bind (v20) fun a21 => Option.bind (q_aI g a21 ((x5 * v18) + x6)) fun v22 => Option.bind (q_fR 11 8 g x0) fun v23 => Option.bind (v23) fun a24 => Option.bind (q_fI 1 0 g a24) fun v25 => Option.bind (q_fR 11 7 g x0) fun v26 => Option.bind (v26) fun a27 => Option.bind (q_fI 4 7 g a19) fun v28 => Option.bind (q_fI 4 8 g a19) fun v29 => Option.bind (q_ob 0 g a27) fun u30 => Option.bind (fX0_at g a27 (x6 + v28) (x5 + v29)) fun v31 => Option.bind (fX11_put g x2 v22 v25 v31) fun v32 => Option.bind (q_wI g x4 ((x5 * v18) + x6) v32) fun g33 => some (.inl (x6 + (1 : Int32), g33)))
theorem pbX11_fill_37 {d : Nat} {Q : ps_Rs → ps_G → Prop}  {x0 : Nat} {x2 : Int32} {x3 : Option Nat} {x4 : Nat} {x5 : Int32} {x6 : Int32} {g : ps_G} {x : (Int32 × ps_G) ⊕ (ps_G)} (h : bX11_fill_37 x0 x2 x3 x4 x5 x6 g = some x) (hh : ∀ s' : Int32 × ps_G, x = .inl s' → ps_At mX11_fill (d + 8) 37 [(0, .ref x0), (2, .int x2), (3, va_rf x3), (4, .ref x4), (5, .int x5), (6, .int s'.1)] [] s'.2 Q) (he : ∀ r' : ps_G, x = .inr r' → ps_At mX11_fill (d + 8) 114 [(0, .ref x0), (2, .int x2), (3, va_rf x3), (4, .ref x4), (5, .int x5)] [] r' Q) : ps_At mX11_fill (d + 8) 37 [(0, .ref x0), (2, .int x2), (3, va_rf x3), (4, .ref x4), (5, .int x5), (6, .int x6)] [] g Q := by
  unfold bX11_fill_37 at h
  refine sX11_fill_37 ?_
  replace h := q_be h
  obtain ⟨v11, hv, h⟩ := h
  replace hv := q_fR_e hv
  obtain ⟨_, cv11, dv11⟩ := hv
  replace h := q_be h
  obtain ⟨a12, ea12, h⟩ := h
  subst ea12
  replace h := q_be h
  obtain ⟨v13, hv, h⟩ := h
  replace hv := q_fI_e hv
  obtain ⟨_, cv13, dv13⟩ := hv
  refine ⟨⟨some _, rfl⟩, _, _, cv11, dv11, _, _, cv13, dv13, ?_⟩
  refine And.intro (fun hc14 => ?_) (fun hc14 => ?_)
  · replace h := q_ifp (hc14) h
    exact ps_weak (he g (Option.some.inj h).symm) ⟨(by first | rfl | (cases x3 <;> rfl)), (by first | rfl | (cases x3 <;> rfl)), (by first | rfl | (cases x3 <;> rfl)), (by first | rfl | (cases x3 <;> rfl)), (by first | rfl | (cases x3 <;> rfl)), trivial⟩
  · replace h := q_ifn (hc14) h
    replace h := q_be h
    obtain ⟨v16, hv, h⟩ := h
    replace hv := q_fR_e hv
    obtain ⟨_, cv16, dv16⟩ := hv
    replace h := q_be h
    obtain ⟨a17, ea17, h⟩ := h
    subst ea17
    replace h := q_be h
    obtain ⟨v18, hv, h⟩ := h
    replace hv := q_fI_e hv
    obtain ⟨_, cv18, dv18⟩ := hv
    replace h := q_be h
    obtain ⟨a19, ea19, h⟩ := h
    subst ea19
    replace h := q_be h
    obtain ⟨v20, hv, h⟩ := h
    replace hv := q_fR_e hv
    obtain ⟨_, cv20, dv20⟩ := hv
    replace h := q_be h
    obtain ⟨a21, ea21, h⟩ := h
    subst ea21
    replace h := q_be h
    obtain ⟨v22, hv, h⟩ := h
    replace hv := q_aI_e hv
    obtain ⟨_, _, cv22, iv22, yv22⟩ := hv
    replace h := q_be h
    obtain ⟨v23, hv, h⟩ := h
    replace hv := q_fR_e hv
    obtain ⟨_, cv23, dv23⟩ := hv
    replace h := q_be h
    obtain ⟨a24, ea24, h⟩ := h
    subst ea24
    replace h := q_be h
    obtain ⟨v25, hv, h⟩ := h
    replace hv := q_fI_e hv
    obtain ⟨_, cv25, dv25⟩ := hv
    replace h := q_be h
    obtain ⟨v26, hv, h⟩ := h
    replace hv := q_fR_e hv
    obtain ⟨_, cv26, dv26⟩ := hv
    replace h := q_be h
    obtain ⟨a27, ea27, h⟩ := h
    subst ea27
    replace h := q_be h
    obtain ⟨v28, hv, h⟩ := h
    replace hv := q_fI_e hv
    obtain ⟨_, cv28, dv28⟩ := hv
    refine ⟨⟨some _, rfl⟩, _, _, cv16, dv16, _, _, cv18, dv18, by decide, ⟨some _, rfl⟩, ⟨some _, rfl⟩, _, _, cv20, dv20, _, _, cv22, iv22, _, yv22, ⟨some _, rfl⟩, _, _, cv23, dv23, _, _, cv25, dv25, ⟨some _, rfl⟩, _, _, cv26, dv26, ⟨some _, rfl⟩, _, _, cv28, dv28, ?_⟩
    replace h := q_be h
    obtain ⟨v29, hv, h⟩ := h
    replace hv := q_fI_e hv
    obtain ⟨_, cv29, dv29⟩ := hv
    replace h := q_be h
    obtain ⟨u30, hv, h⟩ := h
    replace hv := q_ob_e hv
    obtain ⟨_, cu30⟩ := hv
    replace h := q_be h
    obtain ⟨v31, hv, h⟩ := h
    refine ⟨⟨some _, rfl⟩, _, _, cv29, dv29, ⟨_, cu30⟩, ?_⟩
    refine rX0_at hv ?_
    replace h := q_be h
    obtain ⟨v32, hv, h⟩ := h
    refine rX11_put hv ?_
    replace h := q_be h
    obtain ⟨g33, hv, h⟩ := h
    replace hv := q_wI_e hv
    obtain ⟨_, _, cg33, pg33, ig33, yg33⟩ := hv
    refine ⟨_, _, cg33, pg33, ig33, _, yg33, by decide, ?_⟩
    exact ps_weak (hh (x6 + (1 : Int32), g33) (Option.some.inj h).symm) ⟨rfl, rfl, rfl, rfl, rfl, rfl, trivial⟩
noncomputable def bX11_fill_22 (x0 : Nat) (x2 : Int32) (x3 : Option Nat) (x4 : Nat) (x5 : Int32) (g : ps_G) : Option ((Int32 × ps_G) ⊕ (ps_G)) := Option.bind (q_fR 11 0 g x0) fun v7 => Option.bind (v7) fun a8 => Option.bind (q_fI 9 1 g a8) fun v9 => if v9 ≤ x5 then (some (.inr g)) else (Option.bind (q_lp (fun s => bX11_fill_37 x0 x2 x3 x4 x5 s.1 s.2) ((0 : Int32), g)) fun s36 => some (.inl (x5 + (1 : Int32), s36)))
theorem pbX11_fill_22 {d : Nat} {Q : ps_Rs → ps_G → Prop}  {x0 : Nat} {x2 : Int32} {x3 : Option Nat} {x4 : Nat} {x5 : Int32} {g : ps_G} {x : (Int32 × ps_G) ⊕ (ps_G)} (h : bX11_fill_22 x0 x2 x3 x4 x5 g = some x) (hh : ∀ s' : Int32 × ps_G, x = .inl s' → ps_At mX11_fill (d + 8) 22 [(0, .ref x0), (2, .int x2), (3, va_rf x3), (4, .ref x4), (5, .int s'.1)] [] s'.2 Q) (he : ∀ r' : ps_G, x = .inr r' → ps_At mX11_fill (d + 8) 120 [(0, .ref x0), (3, va_rf x3), (4, .ref x4)] [] r' Q) : ps_At mX11_fill (d + 8) 22 [(0, .ref x0), (2, .int x2), (3, va_rf x3), (4, .ref x4), (5, .int x5)] [] g Q := by
  unfold bX11_fill_22 at h
  refine sX11_fill_22 ?_
  replace h := q_be h
  obtain ⟨v7, hv, h⟩ := h
  replace hv := q_fR_e hv
  obtain ⟨_, cv7, dv7⟩ := hv
  replace h := q_be h
  obtain ⟨a8, ea8, h⟩ := h
  subst ea8
  replace h := q_be h
  obtain ⟨v9, hv, h⟩ := h
  replace hv := q_fI_e hv
  obtain ⟨_, cv9, dv9⟩ := hv
  refine ⟨⟨some _, rfl⟩, _, _, cv7, dv7, _, _, cv9, dv9, ?_⟩
  refine And.intro (fun hc10 => ?_) (fun hc10 => ?_)
  · replace h := q_ifp (hc10) h
    exact ps_weak (he g (Option.some.inj h).symm) ⟨(by first | rfl | (cases x3 <;> rfl)), (by first | rfl | (cases x3 <;> rfl)), (by first | rfl | (cases x3 <;> rfl)), trivial⟩
  · replace h := q_ifn (hc10) h
    refine ⟨by decide, ?_⟩
    replace h := q_be h
    obtain ⟨s36, hl, h⟩ := h
    refine ps_weak (q_lp_ok hl (fun s => ps_At mX11_fill (d + 8) 37 [(0, .ref x0), (2, .int x2), (3, va_rf x3), (4, .ref x4), (5, .int x5), (6, .int s.1)] [] s.2 Q) (fun r => ps_At mX11_fill (d + 8) 114 [(0, .ref x0), (2, .int x2), (3, va_rf x3), (4, .ref x4), (5, .int x5)] [] r Q) (fun s x hb hh he => pbX11_fill_37 hb hh he) ?_) ⟨(by first | rfl | (cases x3 <;> rfl)), (by first | rfl | (cases x3 <;> rfl)), (by first | rfl | (cases x3 <;> rfl)), (by first | rfl | (cases x3 <;> rfl)), (by first | rfl | (cases x3 <;> rfl)), (by first | rfl | (cases x3 <;> rfl)), trivial⟩
    refine (?_ : ps_At mX11_fill (d + 8) 114 [(0, .ref x0), (2, .int x2), (3, va_rf x3), (4, .ref x4), (5, .int x5)] [] s36 Q)
    refine sX11_fill_114 ?_
    refine ⟨by decide, ?_⟩
    exact ps_weak (hh (x5 + (1 : Int32), s36) (Option.some.inj h).symm) ⟨(by first | rfl | (cases x3 <;> rfl)), (by first | rfl | (cases x3 <;> rfl)), (by first | rfl | (cases x3 <;> rfl)), (by first | rfl | (cases x3 <;> rfl)), (by first | rfl | (cases x3 <;> rfl)), trivial⟩
noncomputable def jX11_fill_19 (g : ps_G) (x0 : Nat) (x2 : Int32) (x3 : Option Nat) (x4 : Nat) : Option ((String ⊕ Int32) × ps_G) := Option.bind (q_lp (fun s => bX11_fill_22 x0 x2 x3 x4 s.1 s.2) ((0 : Int32), g)) fun s39 => Option.bind (x3) fun a40 => Option.bind (q_ob 11 s39 x0) fun u41 => q_b2 (fX11_repaint s39 x0 a40 x4) fun v42 g43 => some (.inr v42, g43)
theorem pjX11_fill_19 {d : Nat} {Q : ps_Rs → ps_G → Prop} {g : ps_G} {x0 : Nat} {x2 : Int32} {x3 : Option Nat} {x4 : Nat} {r : (String ⊕ Int32) × ps_G} (h : jX11_fill_19 g x0 x2 x3 x4 = some r) (hk : Q (q_rI r.1) r.2) : ps_At mX11_fill (d + 8) 19 [(0, .ref x0), (2, .int x2), (3, va_rf x3), (4, .ref x4)] [] g Q := by
  unfold jX11_fill_19 at h
  refine sX11_fill_19 ?_
  refine ⟨by decide, ?_⟩
  replace h := q_be h
  obtain ⟨s39, hl, h⟩ := h
  refine ps_weak (q_lp_ok hl (fun s => ps_At mX11_fill (d + 8) 22 [(0, .ref x0), (2, .int x2), (3, va_rf x3), (4, .ref x4), (5, .int s.1)] [] s.2 Q) (fun r => ps_At mX11_fill (d + 8) 120 [(0, .ref x0), (3, va_rf x3), (4, .ref x4)] [] r Q) (fun s x hb hh he => pbX11_fill_22 hb hh he) ?_) ⟨(by first | rfl | (cases x3 <;> rfl)), (by first | rfl | (cases x3 <;> rfl)), (by first | rfl | (cases x3 <;> rfl)), (by first | rfl | (cases x3 <;> rfl)), (by first | rfl | (cases x3 <;> rfl)), trivial⟩
  refine (?_ : ps_At mX11_fill (d + 8) 120 [(0, .ref x0), (3, va_rf x3), (4, .ref x4)] [] s39 Q)
  refine sX11_fill_120 ?_
  replace h := q_be h
  obtain ⟨a40, ea40, h⟩ := h
  subst ea40
  replace h := q_be h
  obtain ⟨u41, hv, h⟩ := h
  replace hv := q_ob_e hv
  obtain ⟨_, cu41⟩ := hv
  replace h := q_b2_e h
  obtain ⟨v42, g43, hv, h⟩ := h
  refine ⟨⟨some _, rfl⟩, ⟨some _, rfl⟩, ⟨some _, rfl⟩, ⟨_, cu41⟩, ?_⟩
  refine rX11_repaint hv ?_
  cases h
  exact ⟨rfl, hk⟩
noncomputable def fX11_fill (g : ps_G) (x0 : Nat) (x1 : Int32) (x2 : Int32) : Option ((String ⊕ Int32) × ps_G) := q_tc (fX11_range g x2 (0 : Int32) (2 : Int32)) fun v1 g2 => Option.bind (q_ob 11 g2 x0) fun u3 => q_tc (fX11_knownPixels g2 x0 x1) fun v4 g5 => Option.bind (q_nA .int g5 (576 : Int32)) fun g6 => jX11_fill_19 g6 x0 x2 v4 g5.1
theorem rX11_fill {d : Nat} {Q : ps_Rs → ps_G → Prop} {g : ps_G} {x0 : Nat} {x1 : Int32} {x2 : Int32} {r : (String ⊕ Int32) × ps_G} (h : fX11_fill g x0 x1 x2 = some r) (hk : Q (q_rI r.1) r.2) : ps_Ok mX11_fill (d + 8) [.ref x0, .int x1, .int x2] g Q := by
  unfold fX11_fill at h
  refine sX11_fill_0 ?_
  replace h := q_tc_e h
  rcases h with ⟨E, g2, hv, rfl⟩ | ⟨v1, g2, hv, h⟩
  · exact rX11_range hv ⟨rfl, hk⟩
  refine rX11_range hv ?_
  replace h := q_be h
  obtain ⟨u3, hv, h⟩ := h
  replace hv := q_ob_e hv
  obtain ⟨_, cu3⟩ := hv
  refine ⟨⟨some _, rfl⟩, ⟨_, cu3⟩, ?_⟩
  replace h := q_tc_e h
  rcases h with ⟨E, g5, hv, rfl⟩ | ⟨v4, g5, hv, h⟩
  · exact rX11_knownPixels hv hk
  refine rX11_knownPixels hv ?_
  replace h := q_be h
  obtain ⟨g6, hv, h⟩ := h
  replace hv := q_nA_e hv
  obtain ⟨ag6, bg6, yg6⟩ := hv
  refine ⟨_, _, rfl, by decide, Or.inl rfl, ag6, bg6, _, yg6, some _, _, rfl, by decide, ?_⟩
  refine ps_weak (lv' := [(0, .ref x0), (2, .int x2), (3, va_rf v4), (4, .ref g5.1)]) ?_ ⟨(by first | rfl | (cases v4 <;> rfl)), (by first | rfl | (cases v4 <;> rfl)), (by first | rfl | (cases v4 <;> rfl)), (by first | rfl | (cases v4 <;> rfl)), trivial⟩
  exact ps_weak (pjX11_fill_19 h hk) ⟨(by first | rfl | (cases v4 <;> rfl)), (by first | rfl | (cases v4 <;> rfl)), (by first | rfl | (cases v4 <;> rfl)), (by first | rfl | (cases v4 <;> rfl)), trivial⟩
noncomputable def jX9_below_40_4 (g : ps_G) (x0 : Nat) (x1 : Nat) (x2 : Option Nat) (x3 : Int32) : Option (((Option Nat) × Int32) ⊕ ((Option Nat))) := some (.inl (x2, x3 + (1 : Int32)))
theorem pjX9_below_40_4 {d : Nat} {Q : ps_Rs → ps_G → Prop} {g : ps_G} {x0 : Nat} {x1 : Nat} {x2 : Option Nat} {x3 : Int32} {x : ((Option Nat) × Int32) ⊕ ((Option Nat))} (h : jX9_below_40_4 g x0 x1 x2 x3 = some x) (hh : ∀ s' : (Option Nat) × Int32, x = .inl s' → ps_At mX9_below (d + 2) 4 [(0, .ref x0), (1, .ref x1), (2, va_rf s'.1), (3, .int s'.2)] [] g Q) (he : ∀ r' : (Option Nat), x = .inr r' → ps_At mX9_below (d + 2) 46 [(2, va_rf r')] [] g Q) : ps_At mX9_below (d + 2) 40 [(0, .ref x0), (1, .ref x1), (2, va_rf x2), (3, .int x3)] [] g Q := by
  unfold jX9_below_40_4 at h
  refine sX9_below_40 ?_
  refine ⟨by decide, ?_⟩
  exact ps_weak (hh (x2, x3 + (1 : Int32)) (Option.some.inj h).symm) ⟨(by first | rfl | (cases x2 <;> rfl)), (by first | rfl | (cases x2 <;> rfl)), (by first | rfl | (cases x2 <;> rfl)), (by first | rfl | (cases x2 <;> rfl)), trivial⟩
noncomputable def bX9_below_4 (g : ps_G) (x0 : Nat) (x1 : Nat) (x2 : Option Nat) (x3 : Int32) : Option (((Option Nat) × Int32) ⊕ ((Option Nat))) := Option.bind (q_fI 9 4 g x0) fun v1 => if v1 ≤ x3 then (some (.inr x2)) else (Option.bind (q_fI 4 2 g x1) fun v4 => Option.bind (q_ob 9 g x0) fun u5 => Option.bind (fX9_child g x0 x3 v4) fun v6 => Option.bind (q_g8 v6) fun u7 => Option.bind (q_g8 (some x1)) fun u8 => if ¬ v6 = (some x1) then (if v6 = none then (jX9_below_40_4 g x0 x1 x2 x3) else (jX9_below_40_4 g x0 x1 v6 x3)) else (some (.inr x2)))
theorem pbX9_below_4 {d : Nat} {Q : ps_Rs → ps_G → Prop} {g : ps_G} {x0 : Nat} {x1 : Nat} {x2 : Option Nat} {x3 : Int32} {x : ((Option Nat) × Int32) ⊕ ((Option Nat))} (h : bX9_below_4 g x0 x1 x2 x3 = some x) (hh : ∀ s' : (Option Nat) × Int32, x = .inl s' → ps_At mX9_below (d + 2) 4 [(0, .ref x0), (1, .ref x1), (2, va_rf s'.1), (3, .int s'.2)] [] g Q) (he : ∀ r' : (Option Nat), x = .inr r' → ps_At mX9_below (d + 2) 46 [(2, va_rf r')] [] g Q) : ps_At mX9_below (d + 2) 4 [(0, .ref x0), (1, .ref x1), (2, va_rf x2), (3, .int x3)] [] g Q := by
  unfold bX9_below_4 at h
  refine sX9_below_4 ?_
  replace h := q_be h
  obtain ⟨v1, hv, h⟩ := h
  replace hv := q_fI_e hv
  obtain ⟨_, cv1, dv1⟩ := hv
  refine ⟨⟨some _, rfl⟩, _, _, cv1, dv1, ?_⟩
  refine And.intro (fun hc2 => ?_) (fun hc2 => ?_)
  · replace h := q_ifp (hc2) h
    exact ps_weak (he x2 (Option.some.inj h).symm) ⟨(by first | rfl | (cases x2 <;> rfl)), trivial⟩
  · replace h := q_ifn (hc2) h
    replace h := q_be h
    obtain ⟨v4, hv, h⟩ := h
    replace hv := q_fI_e hv
    obtain ⟨_, cv4, dv4⟩ := hv
    replace h := q_be h
    obtain ⟨u5, hv, h⟩ := h
    replace hv := q_ob_e hv
    obtain ⟨_, cu5⟩ := hv
    replace h := q_be h
    obtain ⟨v6, hv, h⟩ := h
    refine ⟨⟨some _, rfl⟩, ⟨some _, rfl⟩, _, _, cv4, dv4, ⟨_, cu5⟩, ?_⟩
    refine rX9_child hv ?_
    replace h := q_be h
    obtain ⟨u7, hv, h⟩ := h
    replace hv := q_g8_e hv
    replace h := q_be h
    obtain ⟨u8, hv2, h⟩ := h
    replace hv2 := q_g8_e hv2
    refine ⟨_, _, rfl, by decide, ⟨_, rfl⟩, ⟨some _, rfl⟩, _, some _, _, rfl, rfl, hv, hv2, ?_⟩
    refine And.intro (fun hc9 => ?_) (fun hc9 => ?_)
    · replace h := q_ifp (hc9) h
      refine sX9_below_32 ?_
      refine ⟨⟨_, rfl⟩, _, _, rfl, ?_⟩
      refine And.intro (fun hc10 => ?_) (fun hc10 => ?_)
      · replace h := q_ifp (hc10) h
        exact ps_weak (pjX9_below_40_4 h hh he) ⟨(by first | rfl | (cases v6 <;> cases x2 <;> rfl)), (by first | rfl | (cases v6 <;> cases x2 <;> rfl)), (by first | rfl | (cases v6 <;> cases x2 <;> rfl)), (by first | rfl | (cases v6 <;> cases x2 <;> rfl)), trivial⟩
      · replace h := q_ifn (hc10) h
        refine ⟨⟨_, rfl⟩, _, _, rfl, by decide, ?_⟩
        exact ps_weak (pjX9_below_40_4 h hh he) ⟨(by first | rfl | (cases v6 <;> rfl)), (by first | rfl | (cases v6 <;> rfl)), (by first | rfl | (cases v6 <;> rfl)), (by first | rfl | (cases v6 <;> rfl)), trivial⟩
    · replace hc9 := not_not_intro hc9
      replace h := q_ifn (hc9) h
      exact ps_weak (he x2 (Option.some.inj h).symm) ⟨(by first | rfl | (cases v6 <;> cases x2 <;> rfl)), trivial⟩
noncomputable def jX9_below_46 (g : ps_G) (x2 : Option Nat) : Option (Option Nat) := some x2
theorem pjX9_below_46 {d : Nat} {Q : ps_Rs → ps_G → Prop} {g : ps_G} {x2 : Option Nat} {r : Option Nat} (h : jX9_below_46 g x2 = some r) (hk : Q (.inl (some (va_rf r))) g) : ps_At mX9_below (d + 2) 46 [(2, va_rf x2)] [] g Q := by
  unfold jX9_below_46 at h
  refine sX9_below_46 ?_
  cases h
  exact ⟨⟨_, rfl⟩, _, _, rfl, rfl, ⟨_, rfl, Or.inl ⟨_, rfl⟩⟩, hk⟩
noncomputable def fX9_below (g : ps_G) (x0 : Nat) (x1 : Nat) : Option (Option Nat) := Option.bind (q_lp (fun s => bX9_below_4 g x0 x1 s.1 s.2) (none, (0 : Int32))) fun s17 => (fun y18 => jX9_below_46 g y18) s17
theorem rX9_below {d : Nat} {Q : ps_Rs → ps_G → Prop} {g : ps_G} {x0 : Nat} {x1 : Nat} {r : Option Nat} (h : fX9_below g x0 x1 = some r) (hk : Q (.inl (some (va_rf r))) g) : ps_Ok mX9_below (d + 2) [.ref x0, .ref x1] g Q := by
  unfold fX9_below at h
  refine sX9_below_0 ?_
  refine ⟨none, _, rfl, by decide, by decide, ?_⟩
  replace h := q_be h
  obtain ⟨y18, hl, h⟩ := h
  refine ps_weak (q_lp_ok hl (fun s => ps_At mX9_below (d + 2) 4 [(0, .ref x0), (1, .ref x1), (2, va_rf s.1), (3, .int s.2)] [] g Q) (fun r => ps_At mX9_below (d + 2) 46 [(2, va_rf r)] [] g Q) (fun s x hb hh he => pbX9_below_4 hb hh he) ?_) ⟨rfl, rfl, rfl, rfl, trivial⟩
  refine (?_ : ps_At mX9_below (d + 2) 46 [(2, va_rf y18)] [] g Q)
  exact ps_weak (pjX9_below_46 h hk) ⟨(by first | rfl | (cases y18 <;> rfl)), trivial⟩
noncomputable def jX11_mergeInto_85 (g : ps_G) (x0 : Nat) (x6 : Option Nat) : Option (ps_G) := Option.bind (x6) fun a40 => Option.bind (q_ob 11 g x0) fun u41 => Option.bind (fX11_become g x0 a40) fun v42 => some v42
theorem pjX11_mergeInto_85 {d : Nat} {Q : ps_Rs → ps_G → Prop} {g : ps_G} {x0 : Nat} {x6 : Option Nat} {r : ps_G} (h : jX11_mergeInto_85 g x0 x6 = some r) (hk : Q (.inl none) r) : ps_At mX11_mergeInto (d + 102) 85 [(0, .ref x0), (6, va_rf x6)] [] g Q := by
  unfold jX11_mergeInto_85 at h
  refine sX11_mergeInto_85 ?_
  replace h := q_be h
  obtain ⟨a40, ea40, h⟩ := h
  subst ea40
  replace h := q_be h
  obtain ⟨u41, hv, h⟩ := h
  replace hv := q_ob_e hv
  obtain ⟨_, cu41⟩ := hv
  replace h := q_be h
  obtain ⟨v42, hv, h⟩ := h
  refine ⟨⟨some _, rfl⟩, ⟨some _, rfl⟩, ⟨_, cu41⟩, ?_⟩
  refine rX11_become hv ?_
  cases h
  exact ⟨rfl, rfl, hk⟩
noncomputable def jX11_mergeInto_47 (g : ps_G) (x0 : Nat) (x1 : Nat) (x2 : Nat) (x5 : Option Nat) (x6 : Option Nat) : Option (ps_G) := Option.bind (x6) fun a23 => Option.bind (q_fI 4 0 g x2) fun v24 => Option.bind (q_ob 9 g a23) fun u25 => Option.bind (fX9_removeInside g a23 v24) fun v26 => Option.bind (q_fI 4 0 v26 x2) fun v27 => Option.bind (q_ob 9 v26 a23) fun u28 => Option.bind (fX9_remove v26 a23 v27) fun v29 => Option.bind (q_fI 4 0 v29 x1) fun v30 => Option.bind (q_ob 9 v29 a23) fun u31 => Option.bind (fX9_removeInside v29 a23 v30) fun v32 => Option.bind (x5) fun a33 => Option.bind (q_ob 4 v32 x1) fun u34 => q_b2 (fX4_flattened v32 x1 a33) fun v35 g36 => Option.bind (v35) fun a37 => Option.bind (q_ob 9 g36 a23) fun u38 => Option.bind (fX9_exchange g36 a23 a37) fun v39 => jX11_mergeInto_85 v39 x0 (some a23)
theorem pjX11_mergeInto_47 {d : Nat} {Q : ps_Rs → ps_G → Prop} {g : ps_G} {x0 : Nat} {x1 : Nat} {x2 : Nat} {x5 : Option Nat} {x6 : Option Nat} {r : ps_G} (h : jX11_mergeInto_47 g x0 x1 x2 x5 x6 = some r) (hk : Q (.inl none) r) : ps_At mX11_mergeInto (d + 102) 47 [(0, .ref x0), (1, .ref x1), (2, .ref x2), (5, va_rf x5), (6, va_rf x6)] [] g Q := by
  unfold jX11_mergeInto_47 at h
  refine sX11_mergeInto_47 ?_
  replace h := q_be h
  obtain ⟨a23, ea23, h⟩ := h
  subst ea23
  replace h := q_be h
  obtain ⟨v24, hv, h⟩ := h
  replace hv := q_fI_e hv
  obtain ⟨_, cv24, dv24⟩ := hv
  replace h := q_be h
  obtain ⟨u25, hv, h⟩ := h
  replace hv := q_ob_e hv
  obtain ⟨_, cu25⟩ := hv
  replace h := q_be h
  obtain ⟨v26, hv, h⟩ := h
  refine ⟨⟨some _, rfl⟩, ⟨some _, rfl⟩, _, _, cv24, dv24, ⟨_, cu25⟩, ?_⟩
  refine rX9_removeInside hv ?_
  replace h := q_be h
  obtain ⟨v27, hv, h⟩ := h
  replace hv := q_fI_e hv
  obtain ⟨_, cv27, dv27⟩ := hv
  replace h := q_be h
  obtain ⟨u28, hv, h⟩ := h
  replace hv := q_ob_e hv
  obtain ⟨_, cu28⟩ := hv
  replace h := q_be h
  obtain ⟨v29, hv, h⟩ := h
  refine ⟨⟨some _, rfl⟩, ⟨some _, rfl⟩, _, _, cv27, dv27, ⟨_, cu28⟩, ?_⟩
  refine rX9_remove hv ?_
  replace h := q_be h
  obtain ⟨v30, hv, h⟩ := h
  replace hv := q_fI_e hv
  obtain ⟨_, cv30, dv30⟩ := hv
  replace h := q_be h
  obtain ⟨u31, hv, h⟩ := h
  replace hv := q_ob_e hv
  obtain ⟨_, cu31⟩ := hv
  replace h := q_be h
  obtain ⟨v32, hv, h⟩ := h
  refine ⟨⟨some _, rfl⟩, ⟨some _, rfl⟩, _, _, cv30, dv30, ⟨_, cu31⟩, ?_⟩
  refine rX9_removeInside hv ?_
  replace h := q_be h
  obtain ⟨a33, ea33, h⟩ := h
  subst ea33
  replace h := q_be h
  obtain ⟨u34, hv, h⟩ := h
  replace hv := q_ob_e hv
  obtain ⟨_, cu34⟩ := hv
  replace h := q_b2_e h
  obtain ⟨v35, g36, hv, h⟩ := h
  refine ⟨⟨some _, rfl⟩, ⟨some _, rfl⟩, ⟨some _, rfl⟩, ⟨_, cu34⟩, ?_⟩
  refine rX4_flattened hv ?_
  replace h := q_be h
  obtain ⟨a37, ea37, h⟩ := h
  subst ea37
  replace h := q_be h
  obtain ⟨u38, hv, h⟩ := h
  replace hv := q_ob_e hv
  obtain ⟨_, cu38⟩ := hv
  replace h := q_be h
  obtain ⟨v39, hv, h⟩ := h
  refine ⟨⟨_, cu38⟩, ?_⟩
  refine rX9_exchange hv ?_
  exact ps_weak (pjX11_mergeInto_85 h hk) ⟨rfl, rfl, trivial⟩
noncomputable def fX11_mergeInto (g : ps_G) (x0 : Nat) (x1 : Nat) (x2 : Nat) : Option (ps_G) := Option.bind (q_ob 4 g x1) fun u1 => q_b2 (fX4_again g x1) fun v2 g3 => Option.bind (v2) fun a4 => Option.bind (q_sB 4 5 g3 a4 (1 : Int32)) fun g5 => Option.bind (q_ob 4 g5 x2) fun u6 => q_b2 (fX4_again g5 x2) fun v7 g8 => Option.bind (v7) fun a9 => Option.bind (q_sB 4 5 g8 a9 (1 : Int32)) fun g10 => Option.bind (q_fR 11 6 g10 x0) fun v11 => Option.bind (v11) fun a12 => Option.bind (q_fR 11 0 g10 x0) fun v13 => Option.bind (v13) fun a14 => Option.bind (q_ob 10 g10 a12) fun u15 => q_b2 (fX10_together g10 a12 a14 a4 (some a9)) fun v16 g17 => Option.bind (q_fR 11 0 g17 x0) fun v18 => Option.bind (v18) fun a19 => Option.bind (q_ob 9 g17 a19) fun u20 => q_b2 (fX9_again g17 a19) fun v21 g22 => jX11_mergeInto_47 g22 x0 x1 x2 v16 v21
theorem rX11_mergeInto {d : Nat} {Q : ps_Rs → ps_G → Prop} {g : ps_G} {x0 : Nat} {x1 : Nat} {x2 : Nat} {r : ps_G} (h : fX11_mergeInto g x0 x1 x2 = some r) (hk : Q (.inl none) r) : ps_Ok mX11_mergeInto (d + 102) [.ref x0, .ref x1, .ref x2] g Q := by
  unfold fX11_mergeInto at h
  refine sX11_mergeInto_0 ?_
  replace h := q_be h
  obtain ⟨u1, hv, h⟩ := h
  replace hv := q_ob_e hv
  obtain ⟨_, cu1⟩ := hv
  replace h := q_b2_e h
  obtain ⟨v2, g3, hv, h⟩ := h
  refine ⟨⟨some _, rfl⟩, ⟨_, cu1⟩, ?_⟩
  refine rX4_again hv ?_
  replace h := q_be h
  obtain ⟨a4, ea4, h⟩ := h
  subst ea4
  replace h := q_be h
  obtain ⟨g5, hv, h⟩ := h
  replace hv := q_sB_e hv
  obtain ⟨_, cg5, dg5, ng5, yg5⟩ := hv
  replace h := q_be h
  obtain ⟨u6, hv, h⟩ := h
  replace hv := q_ob_e hv
  obtain ⟨_, cu6⟩ := hv
  replace h := q_b2_e h
  obtain ⟨v7, g8, hv, h⟩ := h
  refine ⟨_, _, rfl, by decide, ⟨some _, rfl⟩, _, cg5, dg5, ng5.1, ng5.2, _, yg5, ⟨some _, rfl⟩, ⟨_, cu6⟩, ?_⟩
  refine rX4_again hv ?_
  replace h := q_be h
  obtain ⟨a9, ea9, h⟩ := h
  subst ea9
  replace h := q_be h
  obtain ⟨g10, hv, h⟩ := h
  replace hv := q_sB_e hv
  obtain ⟨_, cg10, dg10, ng10, yg10⟩ := hv
  replace h := q_be h
  obtain ⟨v11, hv, h⟩ := h
  replace hv := q_fR_e hv
  obtain ⟨_, cv11, dv11⟩ := hv
  replace h := q_be h
  obtain ⟨a12, ea12, h⟩ := h
  subst ea12
  replace h := q_be h
  obtain ⟨v13, hv, h⟩ := h
  replace hv := q_fR_e hv
  obtain ⟨_, cv13, dv13⟩ := hv
  replace h := q_be h
  obtain ⟨a14, ea14, h⟩ := h
  subst ea14
  replace h := q_be h
  obtain ⟨u15, hv, h⟩ := h
  replace hv := q_ob_e hv
  obtain ⟨_, cu15⟩ := hv
  replace h := q_b2_e h
  obtain ⟨v16, g17, hv, h⟩ := h
  refine ⟨_, _, rfl, by decide, ⟨some _, rfl⟩, _, cg10, dg10, ng10.1, ng10.2, _, yg10, ⟨some _, rfl⟩, _, _, cv11, dv11, ⟨some _, rfl⟩, _, _, cv13, dv13, ⟨some _, rfl⟩, ⟨some _, rfl⟩, ⟨_, cu15⟩, ?_⟩
  refine rX10_together hv ?_
  replace h := q_be h
  obtain ⟨v18, hv, h⟩ := h
  replace hv := q_fR_e hv
  obtain ⟨_, cv18, dv18⟩ := hv
  replace h := q_be h
  obtain ⟨a19, ea19, h⟩ := h
  subst ea19
  replace h := q_be h
  obtain ⟨u20, hv, h⟩ := h
  replace hv := q_ob_e hv
  obtain ⟨_, cu20⟩ := hv
  replace h := q_b2_e h
  obtain ⟨v21, g22, hv, h⟩ := h
  refine ⟨_, _, rfl, by decide, ⟨some _, rfl⟩, _, _, cv18, dv18, ⟨_, cu20⟩, ?_⟩
  refine rX9_again hv ?_
  refine sX11_mergeInto_45 ?_
  refine ⟨_, _, rfl, by decide, ?_⟩
  refine ps_weak (lv' := [(0, .ref x0), (1, .ref x1), (2, .ref x2), (5, va_rf v16), (6, va_rf v21)]) ?_ ⟨(by first | rfl | (cases v16 <;> cases v21 <;> rfl)), (by first | rfl | (cases v16 <;> cases v21 <;> rfl)), (by first | rfl | (cases v16 <;> cases v21 <;> rfl)), (by first | rfl | (cases v16 <;> cases v21 <;> rfl)), (by first | rfl | (cases v16 <;> cases v21 <;> rfl)), trivial⟩
  exact ps_weak (pjX11_mergeInto_47 h hk) ⟨(by first | rfl | (cases v16 <;> cases v21 <;> rfl)), (by first | rfl | (cases v16 <;> cases v21 <;> rfl)), (by first | rfl | (cases v16 <;> cases v21 <;> rfl)), (by first | rfl | (cases v16 <;> cases v21 <;> rfl)), (by first | rfl | (cases v16 <;> cases v21 <;> rfl)), trivial⟩
noncomputable def fX11_merge (g : ps_G) (x0 : Nat) (x1 : Int32) : Option ((String ⊕ Unit) × ps_G) := Option.bind (q_ob 11 g x0) fun u1 => q_tc (fX11_known g x0 x1) fun v2 g3 => Option.bind (q_fR 11 0 g3 x0) fun v4 => Option.bind (v4) fun a5 => Option.bind (v2) fun a6 => Option.bind (q_ob 9 g3 a5) fun u7 => Option.bind (fX9_below g3 a5 a6) fun v8 => if v8 = none then (some (.inl "java/lang/IllegalStateException", ps_nw g3 6 ps_e0)) else (Option.bind (q_fI 4 1 g3 a6) fun v10 => if (4 : Int32) ≤ v10 then (some (.inl "java/lang/IllegalStateException", ps_nw g3 6 ps_e0)) else (Option.bind (v8) fun a12 => Option.bind (q_fI 4 1 g3 a12) fun v13 => if v13 < (4 : Int32) then (Option.bind (q_ob 11 g3 x0) fun u15 => Option.bind (fX11_mergeInto g3 x0 a12 a6) fun v16 => some (.inr (), v16)) else (some (.inl "java/lang/IllegalStateException", ps_nw g3 6 ps_e0))))
theorem rX11_merge {d : Nat} {Q : ps_Rs → ps_G → Prop} {g : ps_G} {x0 : Nat} {x1 : Int32} {r : (String ⊕ Unit) × ps_G} (h : fX11_merge g x0 x1 = some r) (hk : Q (q_rV r.1) r.2) : ps_Ok mX11_merge (d + 103) [.ref x0, .int x1] g Q := by
  unfold fX11_merge at h
  refine sX11_merge_0 ?_
  replace h := q_be h
  obtain ⟨u1, hv, h⟩ := h
  replace hv := q_ob_e hv
  obtain ⟨_, cu1⟩ := hv
  refine ⟨⟨some _, rfl⟩, ⟨_, cu1⟩, ?_⟩
  replace h := q_tc_e h
  rcases h with ⟨E, g3, hv, rfl⟩ | ⟨v2, g3, hv, h⟩
  · exact rX11_known hv hk
  refine rX11_known hv ?_
  replace h := q_be h
  obtain ⟨v4, hv, h⟩ := h
  replace hv := q_fR_e hv
  obtain ⟨_, cv4, dv4⟩ := hv
  replace h := q_be h
  obtain ⟨a5, ea5, h⟩ := h
  subst ea5
  replace h := q_be h
  obtain ⟨a6, ea6, h⟩ := h
  subst ea6
  replace h := q_be h
  obtain ⟨u7, hv, h⟩ := h
  replace hv := q_ob_e hv
  obtain ⟨_, cu7⟩ := hv
  replace h := q_be h
  obtain ⟨v8, hv, h⟩ := h
  refine ⟨_, _, rfl, by decide, ⟨some _, rfl⟩, _, _, cv4, dv4, ⟨some _, rfl⟩, ⟨_, cu7⟩, ?_⟩
  refine rX9_below hv ?_
  refine ⟨_, _, rfl, by decide, ⟨_, rfl⟩, _, _, rfl, ?_⟩
  refine And.intro (fun hc9 => ?_) (fun hc9 => ?_)
  · replace h := q_ifp (hc9) h
    cases h
    exact sX11_merge_35 (by decide) hk
  · replace h := q_ifn (hc9) h
    replace h := q_be h
    obtain ⟨v10, hv, h⟩ := h
    replace hv := q_fI_e hv
    obtain ⟨_, cv10, dv10⟩ := hv
    refine ⟨⟨some _, rfl⟩, _, _, cv10, dv10, ?_⟩
    refine And.intro (fun hc11 => ?_) (fun hc11 => ?_)
    · replace h := q_ifp (hc11) h
      cases h
      exact sX11_merge_35 (by decide) hk
    · replace h := q_ifn (hc11) h
      replace h := q_be h
      obtain ⟨a12, ea12, h⟩ := h
      subst ea12
      replace h := q_be h
      obtain ⟨v13, hv, h⟩ := h
      replace hv := q_fI_e hv
      obtain ⟨_, cv13, dv13⟩ := hv
      refine ⟨⟨some _, rfl⟩, _, _, cv13, dv13, ?_⟩
      refine And.intro (fun hc14 => ?_) (fun hc14 => ?_)
      · replace h := q_ifp (hc14) h
        refine sX11_merge_46 ?_
        replace h := q_be h
        obtain ⟨u15, hv, h⟩ := h
        replace hv := q_ob_e hv
        obtain ⟨_, cu15⟩ := hv
        replace h := q_be h
        obtain ⟨v16, hv, h⟩ := h
        refine ⟨⟨some _, rfl⟩, ⟨some _, rfl⟩, ⟨some _, rfl⟩, ⟨_, cu15⟩, ?_⟩
        refine rX11_mergeInto hv ?_
        cases h
        exact ⟨rfl, rfl, hk⟩
      · replace h := q_ifn (hc14) h
        cases h
        exact sX11_merge_35 (by decide) hk
noncomputable def bX11_root_6 (g : ps_G) (x0 : Int32) (x1 : Int32) (x2 : Int32) : Option ((Int32 × Int32) ⊕ (Int32)) := if x2 ≤ 0 then (some (.inr x1)) else (some (.inl ((if 0 < (lg_cmp ((Int32.toInt64 (x1 + x2)) * (Int32.toInt64 (x1 + x2))) (Int32.toInt64 x0)) then x1 else x1 + x2), q_shr x2 (1 : Int32))))
theorem pbX11_root_6 {d : Nat} {Q : ps_Rs → ps_G → Prop} {g : ps_G} {x0 : Int32} {x1 : Int32} {x2 : Int32} {x : (Int32 × Int32) ⊕ (Int32)} (h : bX11_root_6 g x0 x1 x2 = some x) (hh : ∀ s' : Int32 × Int32, x = .inl s' → ps_At mX11_root d 6 [(0, .int x0), (1, .int s'.1), (2, .int s'.2)] [] g Q) (he : ∀ r' : Int32, x = .inr r' → ps_At mX11_root d 35 [(1, .int r')] [] g Q) : ps_At mX11_root d 6 [(0, .int x0), (1, .int x1), (2, .int x2)] [] g Q := by
  unfold bX11_root_6 at h
  refine sX11_root_6 ?_
  refine And.intro (fun hc1 => ?_) (fun hc1 => ?_)
  · replace h := q_ifp (hc1) h
    exact ps_weak (he x1 (Option.some.inj h).symm) ⟨rfl, trivial⟩
  · replace h := q_ifn (hc1) h
    have kJ7 : ∀ w6 : Int32, w6 = (if 0 < (lg_cmp ((Int32.toInt64 (x1 + x2)) * (Int32.toInt64 (x1 + x2))) (Int32.toInt64 x0)) then x1 else x1 + x2) → ps_At mX11_root d 28 [(0, .int x0), (1, .int w6), (2, .int x2)] [] g Q := by
      rintro _ rfl
      refine sX11_root_28 ?_
      refine ⟨by decide, ?_⟩
      exact ps_weak (hh ((if 0 < (lg_cmp ((Int32.toInt64 (x1 + x2)) * (Int32.toInt64 (x1 + x2))) (Int32.toInt64 x0)) then x1 else x1 + x2), q_shr x2 (1 : Int32)) (Option.some.inj h).symm) ⟨rfl, rfl, rfl, trivial⟩
    refine ⟨by decide, ?_⟩
    refine And.intro (fun hc5 => ?_) (fun hc5 => ?_)
    · exact ps_weak (kJ7 _ (if_pos (hc5)).symm) ⟨rfl, rfl, rfl, trivial⟩
    · refine ⟨by decide, ?_⟩
      exact ps_weak (kJ7 _ (if_neg (hc5)).symm) ⟨rfl, rfl, rfl, trivial⟩
noncomputable def fX11_root (g : ps_G) (x0 : Int32) : Option (Int32) := Option.bind (q_lp (fun s => bX11_root_6 g x0 s.1 s.2) ((0 : Int32), (32768 : Int32))) fun s10 => some s10
theorem rX11_root {d : Nat} {Q : ps_Rs → ps_G → Prop} {g : ps_G} {x0 : Int32} {r : Int32} (h : fX11_root g x0 = some r) (hk : Q (.inl (some (.int r))) g) : ps_Ok mX11_root d [.int x0] g Q := by
  unfold fX11_root at h
  refine sX11_root_0 ?_
  refine ⟨by decide, by decide, ?_⟩
  replace h := q_be h
  obtain ⟨s10, hl, h⟩ := h
  refine ps_weak (q_lp_ok hl (fun s => ps_At mX11_root d 6 [(0, .int x0), (1, .int s.1), (2, .int s.2)] [] g Q) (fun r => ps_At mX11_root d 35 [(1, .int r)] [] g Q) (fun s x hb hh he => pbX11_root_6 hb hh he) ?_) ⟨rfl, rfl, rfl, trivial⟩
  refine (?_ : ps_At mX11_root d 35 [(1, .int s10)] [] g Q)
  refine sX11_root_35 ?_
  cases h
  exact ⟨rfl, hk⟩
noncomputable def jX1_dab_245_112 (g : ps_G) (x0 : Nat) (x1 : Int32) (x2 : Int32) (x4 : Int32) (x5 : Int32) (x6 : Int32) (x7 : Int32) (x8 : Int32) (x9 : Int32) (x10 : Int32) : Option ((Int32 × ps_G) ⊕ (ps_G)) := some (.inl (x10 + (1 : Int32), g))
theorem pjX1_dab_245_112 {d : Nat} {Q : ps_Rs → ps_G → Prop} {g : ps_G} {x0 : Nat} {x1 : Int32} {x2 : Int32} {x4 : Int32} {x5 : Int32} {x6 : Int32} {x7 : Int32} {x8 : Int32} {x9 : Int32} {x10 : Int32} {x : (Int32 × ps_G) ⊕ (ps_G)} (h : jX1_dab_245_112 g x0 x1 x2 x4 x5 x6 x7 x8 x9 x10 = some x) (hh : ∀ s' : Int32 × ps_G, x = .inl s' → ps_At mX1_dab (d + 1) 112 [(0, .ref x0), (1, .int x1), (2, .int x2), (4, .int x4), (5, .int x5), (6, .int x6), (7, .int x7), (8, .int x8), (9, .int x9), (10, .int s'.1)] [] s'.2 Q) (he : ∀ r' : ps_G, x = .inr r' → ps_At mX1_dab (d + 1) 251 [(0, .ref x0), (1, .int x1), (2, .int x2), (4, .int x4), (5, .int x5), (6, .int x6), (7, .int x7), (8, .int x8), (9, .int x9)] [] r' Q) : ps_At mX1_dab (d + 1) 245 [(0, .ref x0), (1, .int x1), (2, .int x2), (4, .int x4), (5, .int x5), (6, .int x6), (7, .int x7), (8, .int x8), (9, .int x9), (10, .int x10)] [] g Q := by
  unfold jX1_dab_245_112 at h
  refine sX1_dab_245 ?_
  refine ⟨by decide, ?_⟩
  exact ps_weak (hh (x10 + (1 : Int32), g) (Option.some.inj h).symm) ⟨rfl, rfl, rfl, rfl, rfl, rfl, rfl, rfl, rfl, rfl, trivial⟩
noncomputable def jX1_dab_200_112 (g : ps_G) (x0 : Nat) (x1 : Int32) (x2 : Int32) (x4 : Int32) (x5 : Int32) (x6 : Int32) (x7 : Int32) (x8 : Int32) (x9 : Int32) (x10 : Int32) (k0 : Int32) : Option ((Int32 × ps_G) ⊕ (ps_G)) := Option.bind (q_fI 1 13 g x0) fun v23 => Option.bind (q_fR 1 12 g x0) fun v24 => Option.bind (v24) fun a25 => Option.bind (q_aI g a25 ((x9 * v23) + x10)) fun v26 => Option.bind (q_fR 1 12 g x0) fun v27 => Option.bind (v27) fun a28 => Option.bind (q_aI g a28 ((x9 * v23) + x10)) fun v29 => Option.bind (q_wI g a25 ((x9 * v23) + x10) (v26 + (fX11_mul ((255 : Int32) - v29) (fX11_mul k0 x6)))) fun g30 => jX1_dab_245_112 g30 x0 x1 x2 x4 x5 x6 x7 x8 x9 x10
theorem pjX1_dab_200_112 {d : Nat} {Q : ps_Rs → ps_G → Prop} {g : ps_G} {x0 : Nat} {x1 : Int32} {x2 : Int32} {x4 : Int32} {x5 : Int32} {x6 : Int32} {x7 : Int32} {x8 : Int32} {x9 : Int32} {x10 : Int32} {k0 : Int32} {x : (Int32 × ps_G) ⊕ (ps_G)} (h : jX1_dab_200_112 g x0 x1 x2 x4 x5 x6 x7 x8 x9 x10 k0 = some x) (hh : ∀ s' : Int32 × ps_G, x = .inl s' → ps_At mX1_dab (d + 1) 112 [(0, .ref x0), (1, .int x1), (2, .int x2), (4, .int x4), (5, .int x5), (6, .int x6), (7, .int x7), (8, .int x8), (9, .int x9), (10, .int s'.1)] [] s'.2 Q) (he : ∀ r' : ps_G, x = .inr r' → ps_At mX1_dab (d + 1) 251 [(0, .ref x0), (1, .int x1), (2, .int x2), (4, .int x4), (5, .int x5), (6, .int x6), (7, .int x7), (8, .int x8), (9, .int x9)] [] r' Q) : ps_At mX1_dab (d + 1) 200 [(0, .ref x0), (1, .int x1), (2, .int x2), (4, .int x4), (5, .int x5), (6, .int x6), (7, .int x7), (8, .int x8), (9, .int x9), (10, .int x10)] [.int k0] g Q := by
  unfold jX1_dab_200_112 at h
  refine sX1_dab_200 ?_
  replace h := q_be h
  obtain ⟨v23, hv, h⟩ := h
  replace hv := q_fI_e hv
  obtain ⟨_, cv23, dv23⟩ := hv
  replace h := q_be h
  obtain ⟨v24, hv, h⟩ := h
  replace hv := q_fR_e hv
  obtain ⟨_, cv24, dv24⟩ := hv
  replace h := q_be h
  obtain ⟨a25, ea25, h⟩ := h
  subst ea25
  replace h := q_be h
  obtain ⟨v26, hv, h⟩ := h
  replace hv := q_aI_e hv
  obtain ⟨_, _, cv26, iv26, yv26⟩ := hv
  replace h := q_be h
  obtain ⟨v27, hv, h⟩ := h
  replace hv := q_fR_e hv
  obtain ⟨_, cv27, dv27⟩ := hv
  replace h := q_be h
  obtain ⟨a28, ea28, h⟩ := h
  subst ea28
  replace h := q_be h
  obtain ⟨v29, hv, h⟩ := h
  replace hv := q_aI_e hv
  obtain ⟨_, _, cv29, iv29, yv29⟩ := hv
  refine ⟨by decide, ⟨some _, rfl⟩, _, _, cv23, dv23, by decide, ⟨some _, rfl⟩, _, _, cv24, dv24, rfl, rfl, _, _, cv26, iv26, _, yv26, ⟨some _, rfl⟩, _, _, cv27, dv27, _, _, cv29, iv29, _, yv29, ?_⟩
  refine rX11_mul rfl ?_
  refine rX11_mul rfl ?_
  replace h := q_be h
  obtain ⟨g30, hv, h⟩ := h
  replace hv := q_wI_e hv
  obtain ⟨_, _, cg30, pg30, ig30, yg30⟩ := hv
  refine ⟨_, _, cg30, pg30, ig30, _, yg30, ?_⟩
  exact ps_weak (pjX1_dab_245_112 h hh he) ⟨rfl, rfl, rfl, rfl, rfl, rfl, rfl, rfl, rfl, rfl, trivial⟩
noncomputable def bX1_dab_112 (x0 : Nat) (x1 : Int32) (x2 : Int32) (x4 : Int32) (x5 : Int32) (x6 : Int32) (x7 : Int32) (x8 : Int32) (x9 : Int32) (x10 : Int32) (g : ps_G) : Option ((Int32 × ps_G) ⊕ (ps_G)) := if x7 < x10 then (some (.inr g)) else (Option.bind (fX11_root g ((16 : Int32) * ((((((4 : Int32) * x10) + (2 : Int32)) - x1) * ((((4 : Int32) * x10) + (2 : Int32)) - x1)) + (((((4 : Int32) * x9) + (2 : Int32)) - x2) * ((((4 : Int32) * x9) + (2 : Int32)) - x2))))) fun v14 => if x4 < v14 then (jX1_dab_245_112 g x0 x1 x2 x4 x5 x6 x7 x8 x9 x10) else (if ¬ (v14 ≤ x5) ∧ (x5 < x4) then (Option.bind (q_div ((255 : Int32) * (x4 - v14)) (x4 - x5)) fun v22 => jX1_dab_200_112 g x0 x1 x2 x4 x5 x6 x7 x8 x9 x10 v22) else (jX1_dab_200_112 g x0 x1 x2 x4 x5 x6 x7 x8 x9 x10 (255 : Int32))))
theorem pbX1_dab_112 {d : Nat} {Q : ps_Rs → ps_G → Prop}  {x0 : Nat} {x1 : Int32} {x2 : Int32} {x4 : Int32} {x5 : Int32} {x6 : Int32} {x7 : Int32} {x8 : Int32} {x9 : Int32} {x10 : Int32} {g : ps_G} {x : (Int32 × ps_G) ⊕ (ps_G)} (h : bX1_dab_112 x0 x1 x2 x4 x5 x6 x7 x8 x9 x10 g = some x) (hh : ∀ s' : Int32 × ps_G, x = .inl s' → ps_At mX1_dab (d + 1) 112 [(0, .ref x0), (1, .int x1), (2, .int x2), (4, .int x4), (5, .int x5), (6, .int x6), (7, .int x7), (8, .int x8), (9, .int x9), (10, .int s'.1)] [] s'.2 Q) (he : ∀ r' : ps_G, x = .inr r' → ps_At mX1_dab (d + 1) 251 [(0, .ref x0), (1, .int x1), (2, .int x2), (4, .int x4), (5, .int x5), (6, .int x6), (7, .int x7), (8, .int x8), (9, .int x9)] [] r' Q) : ps_At mX1_dab (d + 1) 112 [(0, .ref x0), (1, .int x1), (2, .int x2), (4, .int x4), (5, .int x5), (6, .int x6), (7, .int x7), (8, .int x8), (9, .int x9), (10, .int x10)] [] g Q := by
  unfold bX1_dab_112 at h
  refine sX1_dab_112 ?_
  refine And.intro (fun hc12 => ?_) (fun hc12 => ?_)
  · replace h := q_ifp (hc12) h
    exact ps_weak (he g (Option.some.inj h).symm) ⟨rfl, rfl, rfl, rfl, rfl, rfl, rfl, rfl, rfl, trivial⟩
  · replace h := q_ifn (hc12) h
    replace h := q_be h
    obtain ⟨v14, hv, h⟩ := h
    refine ⟨by decide, by decide, ?_⟩
    refine rX11_root hv ?_
    refine ⟨by decide, ?_⟩
    refine And.intro (fun hc15 => ?_) (fun hc15 => ?_)
    · replace h := q_ifp (hc15) h
      exact ps_weak (pjX1_dab_245_112 h hh he) ⟨rfl, rfl, rfl, rfl, rfl, rfl, rfl, rfl, rfl, rfl, trivial⟩
    · replace h := q_ifn (hc15) h
      have kF32 : (jX1_dab_200_112 g x0 x1 x2 x4 x5 x6 x7 x8 x9 x10 (255 : Int32)) = some x → ps_At mX1_dab (d + 1) 179 [(0, .ref x0), (1, .int x1), (2, .int x2), (4, .int x4), (5, .int x5), (6, .int x6), (7, .int x7), (8, .int x8), (9, .int x9), (10, .int x10)] [] g Q := fun h => by
        refine sX1_dab_179 ?_
        exact ps_weak (pjX1_dab_200_112 h hh he) ⟨rfl, rfl, rfl, rfl, rfl, rfl, rfl, rfl, rfl, rfl, trivial⟩
      refine And.intro (fun hc19 => ?_) (fun hc19 => ?_)
      · exact ps_weak (kF32 (q_ifn (fun z => z.1 hc19) h)) ⟨rfl, rfl, rfl, rfl, rfl, rfl, rfl, rfl, rfl, rfl, trivial⟩
      · refine And.intro (fun hc20 => ?_) (fun hc20 => ?_)
        · replace h := q_ifp (⟨hc19, hc20⟩) h
          refine sX1_dab_185 ?_
          replace h := q_be h
          obtain ⟨v22, hv, h⟩ := h
          replace hv := q_div_e hv
          obtain ⟨zv22, yv22⟩ := hv
          refine ⟨zv22, _, yv22, ?_⟩
          exact ps_weak (pjX1_dab_200_112 h hh he) ⟨rfl, rfl, rfl, rfl, rfl, rfl, rfl, rfl, rfl, rfl, trivial⟩
        · exact ps_weak (kF32 (q_ifn (fun z => hc20 z.2) h)) ⟨rfl, rfl, rfl, rfl, rfl, rfl, rfl, rfl, rfl, rfl, trivial⟩
noncomputable def bX1_dab_89 (x0 : Nat) (x1 : Int32) (x2 : Int32) (x4 : Int32) (x5 : Int32) (x6 : Int32) (x7 : Int32) (x8 : Int32) (x9 : Int32) (g : ps_G) : Option ((Int32 × ps_G) ⊕ (ps_G)) := if x8 < x9 then (some (.inr g)) else (Option.bind (q_fI 1 1 g x0) fun v11 => Option.bind (q_lp (fun s => bX1_dab_112 x0 x1 x2 x4 x5 x6 x7 x8 x9 s.1 s.2) (fJ9_max_7cf53 (0 : Int32) (((x1 - v11) / (4 : Int32)) - (2 : Int32)), g)) fun s37 => some (.inl (x9 + (1 : Int32), s37)))
theorem pbX1_dab_89 {d : Nat} {Q : ps_Rs → ps_G → Prop}  {x0 : Nat} {x1 : Int32} {x2 : Int32} {x4 : Int32} {x5 : Int32} {x6 : Int32} {x7 : Int32} {x8 : Int32} {x9 : Int32} {g : ps_G} {x : (Int32 × ps_G) ⊕ (ps_G)} (h : bX1_dab_89 x0 x1 x2 x4 x5 x6 x7 x8 x9 g = some x) (hh : ∀ s' : Int32 × ps_G, x = .inl s' → ps_At mX1_dab (d + 1) 89 [(0, .ref x0), (1, .int x1), (2, .int x2), (4, .int x4), (5, .int x5), (6, .int x6), (7, .int x7), (8, .int x8), (9, .int s'.1)] [] s'.2 Q) (he : ∀ r' : ps_G, x = .inr r' → ps_At mX1_dab (d + 1) 257 [] [] r' Q) : ps_At mX1_dab (d + 1) 89 [(0, .ref x0), (1, .int x1), (2, .int x2), (4, .int x4), (5, .int x5), (6, .int x6), (7, .int x7), (8, .int x8), (9, .int x9)] [] g Q := by
  unfold bX1_dab_89 at h
  refine sX1_dab_89 ?_
  refine And.intro (fun hc9 => ?_) (fun hc9 => ?_)
  · replace h := q_ifp (hc9) h
    exact ps_weak (he g (Option.some.inj h).symm) trivial
  · replace h := q_ifn (hc9) h
    replace h := q_be h
    obtain ⟨v11, hv, h⟩ := h
    replace hv := q_fI_e hv
    obtain ⟨_, cv11, dv11⟩ := hv
    refine ⟨⟨some _, rfl⟩, _, _, cv11, dv11, by decide, _, rfl, ?_⟩
    refine rJ9_max_7cf53 rfl ?_
    refine ⟨by decide, ?_⟩
    replace h := q_be h
    obtain ⟨s37, hl, h⟩ := h
    refine ps_weak (q_lp_ok hl (fun s => ps_At mX1_dab (d + 1) 112 [(0, .ref x0), (1, .int x1), (2, .int x2), (4, .int x4), (5, .int x5), (6, .int x6), (7, .int x7), (8, .int x8), (9, .int x9), (10, .int s.1)] [] s.2 Q) (fun r => ps_At mX1_dab (d + 1) 251 [(0, .ref x0), (1, .int x1), (2, .int x2), (4, .int x4), (5, .int x5), (6, .int x6), (7, .int x7), (8, .int x8), (9, .int x9)] [] r Q) (fun s x hb hh he => pbX1_dab_112 hb hh he) ?_) ⟨rfl, rfl, rfl, rfl, rfl, rfl, rfl, rfl, rfl, rfl, trivial⟩
    refine (?_ : ps_At mX1_dab (d + 1) 251 [(0, .ref x0), (1, .int x1), (2, .int x2), (4, .int x4), (5, .int x5), (6, .int x6), (7, .int x7), (8, .int x8), (9, .int x9)] [] s37 Q)
    refine sX1_dab_251 ?_
    refine ⟨by decide, ?_⟩
    exact ps_weak (hh (x9 + (1 : Int32), s37) (Option.some.inj h).symm) ⟨rfl, rfl, rfl, rfl, rfl, rfl, rfl, rfl, rfl, trivial⟩
noncomputable def fX1_dab (g : ps_G) (x0 : Nat) (x1 : Int32) (x2 : Int32) (x3 : Int32) : Option (ps_G) := Option.bind (q_fI 1 1 g x0) fun v1 => Option.bind (q_fI 1 2 g x0) fun v2 => Option.bind (q_fI 1 4 g x0) fun v3 => Option.bind (q_fI 1 13 g x0) fun v4 => Option.bind (q_fI 1 1 g x0) fun v5 => Option.bind (q_fI 1 14 g x0) fun v6 => Option.bind (q_fI 1 1 g x0) fun v7 => Option.bind (q_fI 1 1 g x0) fun v8 => Option.bind (q_lp (fun s => bX1_dab_89 x0 x1 x2 ((4 : Int32) * v1) ((((4 : Int32) * v1) * v2) / (255 : Int32)) (fX11_mul x3 v3) (fJ9_min_7cf53 (v4 - (1 : Int32)) (((x1 + v5) / (4 : Int32)) + (1 : Int32))) (fJ9_min_7cf53 (v6 - (1 : Int32)) (((x2 + v7) / (4 : Int32)) + (1 : Int32))) s.1 s.2) (fJ9_max_7cf53 (0 : Int32) (((x2 - v8) / (4 : Int32)) - (2 : Int32)), g)) fun s40 => some s40
theorem rX1_dab {d : Nat} {Q : ps_Rs → ps_G → Prop} {g : ps_G} {x0 : Nat} {x1 : Int32} {x2 : Int32} {x3 : Int32} {r : ps_G} (h : fX1_dab g x0 x1 x2 x3 = some r) (hk : Q (.inl none) r) : ps_Ok mX1_dab (d + 1) [.ref x0, .int x1, .int x2, .int x3] g Q := by
  unfold fX1_dab at h
  refine sX1_dab_0 ?_
  replace h := q_be h
  obtain ⟨v1, hv, h⟩ := h
  replace hv := q_fI_e hv
  obtain ⟨_, cv1, dv1⟩ := hv
  replace h := q_be h
  obtain ⟨v2, hv, h⟩ := h
  replace hv := q_fI_e hv
  obtain ⟨_, cv2, dv2⟩ := hv
  replace h := q_be h
  obtain ⟨v3, hv, h⟩ := h
  replace hv := q_fI_e hv
  obtain ⟨_, cv3, dv3⟩ := hv
  refine ⟨⟨some _, rfl⟩, _, _, cv1, dv1, by decide, ⟨some _, rfl⟩, _, _, cv2, dv2, by decide, _, rfl, by decide, ⟨some _, rfl⟩, _, _, cv3, dv3, ?_⟩
  refine rX11_mul rfl ?_
  replace h := q_be h
  obtain ⟨v4, hv, h⟩ := h
  replace hv := q_fI_e hv
  obtain ⟨_, cv4, dv4⟩ := hv
  replace h := q_be h
  obtain ⟨v5, hv, h⟩ := h
  replace hv := q_fI_e hv
  obtain ⟨_, cv5, dv5⟩ := hv
  refine ⟨by decide, ⟨some _, rfl⟩, _, _, cv4, dv4, ⟨some _, rfl⟩, _, _, cv5, dv5, by decide, _, rfl, ?_⟩
  refine rJ9_min_7cf53 rfl ?_
  replace h := q_be h
  obtain ⟨v6, hv, h⟩ := h
  replace hv := q_fI_e hv
  obtain ⟨_, cv6, dv6⟩ := hv
  replace h := q_be h
  obtain ⟨v7, hv, h⟩ := h
  replace hv := q_fI_e hv
  obtain ⟨_, cv7, dv7⟩ := hv
  refine ⟨by decide, ⟨some _, rfl⟩, _, _, cv6, dv6, ⟨some _, rfl⟩, _, _, cv7, dv7, by decide, _, rfl, ?_⟩
  refine rJ9_min_7cf53 rfl ?_
  replace h := q_be h
  obtain ⟨v8, hv, h⟩ := h
  replace hv := q_fI_e hv
  obtain ⟨_, cv8, dv8⟩ := hv
  refine ⟨by decide, ⟨some _, rfl⟩, _, _, cv8, dv8, by decide, _, rfl, ?_⟩
  refine rJ9_max_7cf53 rfl ?_
  refine sX1_dab_87 ?_
  refine ⟨by decide, ?_⟩
  replace h := q_be h
  obtain ⟨s40, hl, h⟩ := h
  refine ps_weak (q_lp_ok hl (fun s => ps_At mX1_dab (d + 1) 89 [(0, .ref x0), (1, .int x1), (2, .int x2), (4, .int ((4 : Int32) * v1)), (5, .int ((((4 : Int32) * v1) * v2) / (255 : Int32))), (6, .int (fX11_mul x3 v3)), (7, .int (fJ9_min_7cf53 (v4 - (1 : Int32)) (((x1 + v5) / (4 : Int32)) + (1 : Int32)))), (8, .int (fJ9_min_7cf53 (v6 - (1 : Int32)) (((x2 + v7) / (4 : Int32)) + (1 : Int32)))), (9, .int s.1)] [] s.2 Q) (fun r => ps_At mX1_dab (d + 1) 257 [] [] r Q) (fun s x hb hh he => pbX1_dab_89 hb hh he) ?_) ⟨rfl, rfl, rfl, rfl, rfl, rfl, rfl, rfl, rfl, trivial⟩
  refine (?_ : ps_At mX1_dab (d + 1) 257 [] [] s40 Q)
  refine sX1_dab_257 ?_
  cases h
  exact ⟨rfl, rfl, hk⟩
noncomputable def bX1_along_88 (x0 : Nat) (x1 : Int32) (x3 : Int32) (x4 : Int32) (x5 : Int32) (x6 : Int32) (x7 : Int32) (x8 : Int32) (x10 : Int32) (x9 : Int32) (x11 : Int32) (g : ps_G) : Option ((Int32 × Int32 × ps_G) ⊕ (Int32 × ps_G)) := if (x8 < x11) ∨ (x8 ≤ 0) then (some (.inr (x9, g))) else (Option.bind (q_div (x6 * x11) x8) fun v21 => Option.bind (q_div (x7 * x11) x8) fun v22 => Option.bind (q_fR 1 11 g x0) fun v23 => Option.bind (v23) fun a24 => Option.bind (q_aI g a24 x1) fun v25 => Option.bind (q_div ((v25 - x5) * x11) x8) fun v26 => Option.bind (q_ob 1 g x0) fun u27 => Option.bind (fX1_dab g x0 (x3 + v21) (x4 + v22) (x5 + v26)) fun v28 => some (.inl (x8 - x11, x11 + x10, v28)))
theorem pbX1_along_88 {d : Nat} {Q : ps_Rs → ps_G → Prop}  {x0 : Nat} {x1 : Int32} {x3 : Int32} {x4 : Int32} {x5 : Int32} {x6 : Int32} {x7 : Int32} {x8 : Int32} {x10 : Int32} {x9 : Int32} {x11 : Int32} {g : ps_G} {x : (Int32 × Int32 × ps_G) ⊕ (Int32 × ps_G)} (h : bX1_along_88 x0 x1 x3 x4 x5 x6 x7 x8 x10 x9 x11 g = some x) (hh : ∀ s' : Int32 × Int32 × ps_G, x = .inl s' → ps_At mX1_along (d + 2) 88 [(0, .ref x0), (1, .int x1), (3, .int x3), (4, .int x4), (5, .int x5), (6, .int x6), (7, .int x7), (8, .int x8), (9, .int s'.1), (10, .int x10), (11, .int s'.2.1)] [] s'.2.2 Q) (he : ∀ r' : Int32 × ps_G, x = .inr r' → ps_At mX1_along (d + 2) 160 [(9, .int r'.1)] [] r'.2 Q) : ps_At mX1_along (d + 2) 88 [(0, .ref x0), (1, .int x1), (3, .int x3), (4, .int x4), (5, .int x5), (6, .int x6), (7, .int x7), (8, .int x8), (9, .int x9), (10, .int x10), (11, .int x11)] [] g Q := by
  unfold bX1_along_88 at h
  refine sX1_along_88 ?_
  have kT29 : (some (.inr (x9, g))) = some x → ps_At mX1_along (d + 2) 160 [(9, .int x9)] [] g Q := fun h => by
    exact ps_weak (he (x9, g) (Option.some.inj h).symm) ⟨rfl, trivial⟩
  refine And.intro (fun hc18 => ?_) (fun hc18 => ?_)
  · exact ps_weak (kT29 (q_ifp (Or.inl hc18) h)) ⟨rfl, trivial⟩
  · refine And.intro (fun hc19 => ?_) (fun hc19 => ?_)
    · exact ps_weak (kT29 (q_ifp (Or.inr (hc19)) h)) ⟨rfl, trivial⟩
    · replace h := q_ifn (not_or.mpr ⟨hc18, hc19⟩) h
      replace h := q_be h
      obtain ⟨v21, hv, h⟩ := h
      replace hv := q_div_e hv
      obtain ⟨zv21, yv21⟩ := hv
      replace h := q_be h
      obtain ⟨v22, hv, h⟩ := h
      replace hv := q_div_e hv
      obtain ⟨zv22, yv22⟩ := hv
      replace h := q_be h
      obtain ⟨v23, hv, h⟩ := h
      replace hv := q_fR_e hv
      obtain ⟨_, cv23, dv23⟩ := hv
      replace h := q_be h
      obtain ⟨a24, ea24, h⟩ := h
      subst ea24
      replace h := q_be h
      obtain ⟨v25, hv, h⟩ := h
      replace hv := q_aI_e hv
      obtain ⟨_, _, cv25, iv25, yv25⟩ := hv
      replace h := q_be h
      obtain ⟨v26, hv, h⟩ := h
      replace hv := q_div_e hv
      obtain ⟨zv26, yv26⟩ := hv
      replace h := q_be h
      obtain ⟨u27, hv, h⟩ := h
      replace hv := q_ob_e hv
      obtain ⟨_, cu27⟩ := hv
      replace h := q_be h
      obtain ⟨v28, hv, h⟩ := h
      refine ⟨⟨some _, rfl⟩, zv21, _, yv21, zv22, _, yv22, ⟨some _, rfl⟩, _, _, cv23, dv23, _, _, cv25, iv25, _, yv25, zv26, _, yv26, ⟨_, cu27⟩, ?_⟩
      refine rX1_dab hv ?_
      refine ⟨by decide, by decide, ?_⟩
      exact ps_weak (hh (x8 - x11, x11 + x10, v28) (Option.some.inj h).symm) ⟨rfl, rfl, rfl, rfl, rfl, rfl, rfl, rfl, rfl, rfl, rfl, trivial⟩
noncomputable def jX1_along_160 (g : ps_G) (x9 : Int32) : Option (Int32 × ps_G) := some (x9, g)
theorem pjX1_along_160 {d : Nat} {Q : ps_Rs → ps_G → Prop} {g : ps_G} {x9 : Int32} {r : Int32 × ps_G} (h : jX1_along_160 g x9 = some r) (hk : Q (.inl (some (.int r.1))) r.2) : ps_At mX1_along (d + 2) 160 [(9, .int x9)] [] g Q := by
  unfold jX1_along_160 at h
  refine sX1_along_160 ?_
  cases h
  exact ⟨rfl, hk⟩
noncomputable def fX1_along (g : ps_G) (x0 : Nat) (x1 : Int32) (x2 : Int32) : Option (Int32 × ps_G) := Option.bind (q_fR 1 9 g x0) fun v1 => Option.bind (v1) fun a2 => Option.bind (q_aI g a2 (x1 - (1 : Int32))) fun v3 => Option.bind (q_fR 1 10 g x0) fun v4 => Option.bind (v4) fun a5 => Option.bind (q_aI g a5 (x1 - (1 : Int32))) fun v6 => Option.bind (q_fR 1 11 g x0) fun v7 => Option.bind (v7) fun a8 => Option.bind (q_aI g a8 (x1 - (1 : Int32))) fun v9 => Option.bind (q_fR 1 9 g x0) fun v10 => Option.bind (v10) fun a11 => Option.bind (q_aI g a11 x1) fun v12 => Option.bind (q_fR 1 10 g x0) fun v13 => Option.bind (v13) fun a14 => Option.bind (q_aI g a14 x1) fun v15 => Option.bind (fX11_root g (((v12 - v3) * (v12 - v3)) + ((v15 - v6) * (v15 - v6)))) fun v16 => Option.bind (q_fI 1 3 g x0) fun v17 => Option.bind (q_lp (fun s => bX1_along_88 x0 x1 v3 v6 v9 (v12 - v3) (v15 - v6) v16 (fJ9_max_7cf53 v17 (1 : Int32)) s.1 s.2.1 s.2.2) (x2 + v16, (fJ9_max_7cf53 v17 (1 : Int32)) - x2, g)) fun s31 => jX1_along_160 s31.2 s31.1
theorem rX1_along {d : Nat} {Q : ps_Rs → ps_G → Prop} {g : ps_G} {x0 : Nat} {x1 : Int32} {x2 : Int32} {r : Int32 × ps_G} (h : fX1_along g x0 x1 x2 = some r) (hk : Q (.inl (some (.int r.1))) r.2) : ps_Ok mX1_along (d + 2) [.ref x0, .int x1, .int x2] g Q := by
  unfold fX1_along at h
  refine sX1_along_0 ?_
  replace h := q_be h
  obtain ⟨v1, hv, h⟩ := h
  replace hv := q_fR_e hv
  obtain ⟨_, cv1, dv1⟩ := hv
  replace h := q_be h
  obtain ⟨a2, ea2, h⟩ := h
  subst ea2
  replace h := q_be h
  obtain ⟨v3, hv, h⟩ := h
  replace hv := q_aI_e hv
  obtain ⟨_, _, cv3, iv3, yv3⟩ := hv
  replace h := q_be h
  obtain ⟨v4, hv, h⟩ := h
  replace hv := q_fR_e hv
  obtain ⟨_, cv4, dv4⟩ := hv
  replace h := q_be h
  obtain ⟨a5, ea5, h⟩ := h
  subst ea5
  replace h := q_be h
  obtain ⟨v6, hv, h⟩ := h
  replace hv := q_aI_e hv
  obtain ⟨_, _, cv6, iv6, yv6⟩ := hv
  replace h := q_be h
  obtain ⟨v7, hv, h⟩ := h
  replace hv := q_fR_e hv
  obtain ⟨_, cv7, dv7⟩ := hv
  replace h := q_be h
  obtain ⟨a8, ea8, h⟩ := h
  subst ea8
  replace h := q_be h
  obtain ⟨v9, hv, h⟩ := h
  replace hv := q_aI_e hv
  obtain ⟨_, _, cv9, iv9, yv9⟩ := hv
  replace h := q_be h
  obtain ⟨v10, hv, h⟩ := h
  replace hv := q_fR_e hv
  obtain ⟨_, cv10, dv10⟩ := hv
  replace h := q_be h
  obtain ⟨a11, ea11, h⟩ := h
  subst ea11
  refine ⟨⟨some _, rfl⟩, _, _, cv1, dv1, _, _, cv3, iv3, _, yv3, by decide, ⟨some _, rfl⟩, _, _, cv4, dv4, _, _, cv6, iv6, _, yv6, by decide, ⟨some _, rfl⟩, _, _, cv7, dv7, _, _, cv9, iv9, _, yv9, by decide, ⟨some _, rfl⟩, _, _, cv10, dv10, ?_⟩
  replace h := q_be h
  obtain ⟨v12, hv, h⟩ := h
  replace hv := q_aI_e hv
  obtain ⟨_, _, cv12, iv12, yv12⟩ := hv
  replace h := q_be h
  obtain ⟨v13, hv, h⟩ := h
  replace hv := q_fR_e hv
  obtain ⟨_, cv13, dv13⟩ := hv
  replace h := q_be h
  obtain ⟨a14, ea14, h⟩ := h
  subst ea14
  replace h := q_be h
  obtain ⟨v15, hv, h⟩ := h
  replace hv := q_aI_e hv
  obtain ⟨_, _, cv15, iv15, yv15⟩ := hv
  replace h := q_be h
  obtain ⟨v16, hv, h⟩ := h
  refine ⟨_, _, cv12, iv12, _, yv12, by decide, ⟨some _, rfl⟩, _, _, cv13, dv13, _, _, cv15, iv15, _, yv15, by decide, ?_⟩
  refine rX11_root hv ?_
  replace h := q_be h
  obtain ⟨v17, hv, h⟩ := h
  replace hv := q_fI_e hv
  obtain ⟨_, cv17, dv17⟩ := hv
  refine ⟨by decide, by decide, ⟨some _, rfl⟩, _, _, cv17, dv17, ?_⟩
  refine rJ9_max_7cf53 rfl ?_
  refine ⟨by decide, by decide, ?_⟩
  replace h := q_be h
  obtain ⟨s31, hl, h⟩ := h
  refine ps_weak (q_lp_ok hl (fun s => ps_At mX1_along (d + 2) 88 [(0, .ref x0), (1, .int x1), (3, .int v3), (4, .int v6), (5, .int v9), (6, .int (v12 - v3)), (7, .int (v15 - v6)), (8, .int v16), (9, .int s.1), (10, .int (fJ9_max_7cf53 v17 (1 : Int32))), (11, .int s.2.1)] [] s.2.2 Q) (fun r => ps_At mX1_along (d + 2) 160 [(9, .int r.1)] [] r.2 Q) (fun s x hb hh he => pbX1_along_88 hb hh he) ?_) ⟨rfl, rfl, rfl, rfl, rfl, rfl, rfl, rfl, rfl, rfl, rfl, trivial⟩
  refine (?_ : ps_At mX1_along (d + 2) 160 [(9, .int s31.1)] [] s31.2 Q)
  exact ps_weak (pjX1_along_160 h hk) ⟨rfl, trivial⟩
noncomputable def bX1_sweep_57 (x0 : Nat) (x3 : Int32) (x4 : Int32) (g : ps_G) : Option ((Int32 × Int32 × ps_G) ⊕ (ps_G)) := Option.bind (q_fI 1 8 g x0) fun v17 => if (v17 ≤ x4) ∨ ((20 : Int32) ≤ x4) then (some (.inr g)) else (Option.bind (q_ob 1 g x0) fun u21 => q_b2 (fX1_along g x0 x4 x3) fun v22 g23 => some (.inl (v22, x4 + (1 : Int32), g23)))
theorem pbX1_sweep_57 {d : Nat} {Q : ps_Rs → ps_G → Prop}  {x0 : Nat} {x3 : Int32} {x4 : Int32} {g : ps_G} {x : (Int32 × Int32 × ps_G) ⊕ (ps_G)} (h : bX1_sweep_57 x0 x3 x4 g = some x) (hh : ∀ s' : Int32 × Int32 × ps_G, x = .inl s' → ps_At mX1_sweep (d + 3) 57 [(0, .ref x0), (3, .int s'.1), (4, .int s'.2.1)] [] s'.2.2 Q) (he : ∀ r' : ps_G, x = .inr r' → ps_At mX1_sweep (d + 3) 87 [] [] r' Q) : ps_At mX1_sweep (d + 3) 57 [(0, .ref x0), (3, .int x3), (4, .int x4)] [] g Q := by
  unfold bX1_sweep_57 at h
  refine sX1_sweep_57 ?_
  replace h := q_be h
  obtain ⟨v17, hv, h⟩ := h
  replace hv := q_fI_e hv
  obtain ⟨_, cv17, dv17⟩ := hv
  have kT24 : (some (.inr g)) = some x → ps_At mX1_sweep (d + 3) 87 [] [] g Q := fun h => by
    exact ps_weak (he g (Option.some.inj h).symm) trivial
  refine ⟨⟨some _, rfl⟩, _, _, cv17, dv17, ?_⟩
  refine And.intro (fun hc18 => ?_) (fun hc18 => ?_)
  · exact ps_weak (kT24 (q_ifp (Or.inl hc18) h)) trivial
  · refine And.intro (fun hc19 => ?_) (fun hc19 => ?_)
    · exact ps_weak (kT24 (q_ifp (Or.inr (hc19)) h)) trivial
    · replace h := q_ifn (not_or.mpr ⟨hc18, hc19⟩) h
      replace h := q_be h
      obtain ⟨u21, hv, h⟩ := h
      replace hv := q_ob_e hv
      obtain ⟨_, cu21⟩ := hv
      replace h := q_b2_e h
      obtain ⟨v22, g23, hv, h⟩ := h
      refine ⟨⟨some _, rfl⟩, ⟨_, cu21⟩, ?_⟩
      refine rX1_along hv ?_
      refine ⟨by decide, by decide, ?_⟩
      exact ps_weak (hh (v22, x4 + (1 : Int32), g23) (Option.some.inj h).symm) ⟨rfl, rfl, rfl, trivial⟩
noncomputable def jX1_sweep_87 (g : ps_G) : Option (ps_G) := some g
theorem pjX1_sweep_87 {d : Nat} {Q : ps_Rs → ps_G → Prop} {g : ps_G}  {r : ps_G} (h : jX1_sweep_87 g = some r) (hk : Q (.inl none) r) : ps_At mX1_sweep (d + 3) 87 [] [] g Q := by
  unfold jX1_sweep_87 at h
  refine sX1_sweep_87 ?_
  cases h
  exact ⟨rfl, rfl, hk⟩
noncomputable def jX1_sweep_52 (g : ps_G) (x0 : Nat) : Option (ps_G) := Option.bind (q_lp (fun s => bX1_sweep_57 x0 s.1 s.2.1 s.2.2) ((0 : Int32), (1 : Int32), g)) fun s26 => jX1_sweep_87 s26
theorem pjX1_sweep_52 {d : Nat} {Q : ps_Rs → ps_G → Prop} {g : ps_G} {x0 : Nat} {r : ps_G} (h : jX1_sweep_52 g x0 = some r) (hk : Q (.inl none) r) : ps_At mX1_sweep (d + 3) 52 [(0, .ref x0)] [] g Q := by
  unfold jX1_sweep_52 at h
  refine sX1_sweep_52 ?_
  refine ⟨by decide, by decide, ?_⟩
  replace h := q_be h
  obtain ⟨s26, hl, h⟩ := h
  refine ps_weak (q_lp_ok hl (fun s => ps_At mX1_sweep (d + 3) 57 [(0, .ref x0), (3, .int s.1), (4, .int s.2.1)] [] s.2.2 Q) (fun r => ps_At mX1_sweep (d + 3) 87 [] [] r Q) (fun s x hb hh he => pbX1_sweep_57 hb hh he) ?_) ⟨rfl, rfl, rfl, trivial⟩
  refine (?_ : ps_At mX1_sweep (d + 3) 87 [] [] s26 Q)
  exact ps_weak (pjX1_sweep_87 h hk) trivial
noncomputable def fX1_sweep (g : ps_G) (x0 : Nat) (x1 : Int32) (x2 : Int32) : Option (ps_G) := Option.bind (q_sI 1 13 g x0 (fX11_within x1 (1 : Int32) (24 : Int32))) fun g1 => Option.bind (q_sI 1 14 g1 x0 (fX11_within x2 (1 : Int32) (24 : Int32))) fun g2 => Option.bind (q_fR 1 12 g2 x0) fun v3 => Option.bind (v3) fun a4 => Option.bind (fJ7_fill_53178 g2 a4 (0 : Int32)) fun v5 => Option.bind (q_fR 1 9 v5 x0) fun v6 => Option.bind (v6) fun a7 => Option.bind (q_aI v5 a7 (0 : Int32)) fun v8 => Option.bind (q_fR 1 10 v5 x0) fun v9 => Option.bind (v9) fun a10 => Option.bind (q_aI v5 a10 (0 : Int32)) fun v11 => Option.bind (q_fR 1 11 v5 x0) fun v12 => Option.bind (v12) fun a13 => Option.bind (q_aI v5 a13 (0 : Int32)) fun v14 => Option.bind (q_ob 1 v5 x0) fun u15 => Option.bind (fX1_dab v5 x0 v8 v11 v14) fun v16 => jX1_sweep_52 v16 x0
theorem rX1_sweep {d : Nat} {Q : ps_Rs → ps_G → Prop} {g : ps_G} {x0 : Nat} {x1 : Int32} {x2 : Int32} {r : ps_G} (h : fX1_sweep g x0 x1 x2 = some r) (hk : Q (.inl none) r) : ps_Ok mX1_sweep (d + 3) [.ref x0, .int x1, .int x2] g Q := by
  unfold fX1_sweep at h
  refine sX1_sweep_0 ?_
  refine ⟨⟨some _, rfl⟩, ?_⟩
  refine rX11_within rfl ?_
  replace h := q_be h
  obtain ⟨g1, hv, h⟩ := h
  replace hv := q_sI_e hv
  obtain ⟨_, cg1, dg1, yg1⟩ := hv
  refine ⟨_, cg1, dg1, rfl, rfl, _, yg1, ⟨some _, rfl⟩, ?_⟩
  refine rX11_within rfl ?_
  replace h := q_be h
  obtain ⟨g2, hv, h⟩ := h
  replace hv := q_sI_e hv
  obtain ⟨_, cg2, dg2, yg2⟩ := hv
  replace h := q_be h
  obtain ⟨v3, hv, h⟩ := h
  replace hv := q_fR_e hv
  obtain ⟨_, cv3, dv3⟩ := hv
  replace h := q_be h
  obtain ⟨a4, ea4, h⟩ := h
  subst ea4
  replace h := q_be h
  obtain ⟨v5, hv, h⟩ := h
  refine ⟨_, cg2, dg2, rfl, rfl, _, yg2, ⟨some _, rfl⟩, _, _, cv3, dv3, ?_⟩
  refine rJ7_fill_53178 hv ?_
  replace h := q_be h
  obtain ⟨v6, hv, h⟩ := h
  replace hv := q_fR_e hv
  obtain ⟨_, cv6, dv6⟩ := hv
  replace h := q_be h
  obtain ⟨a7, ea7, h⟩ := h
  subst ea7
  replace h := q_be h
  obtain ⟨v8, hv, h⟩ := h
  replace hv := q_aI_e hv
  obtain ⟨_, _, cv8, iv8, yv8⟩ := hv
  replace h := q_be h
  obtain ⟨v9, hv, h⟩ := h
  replace hv := q_fR_e hv
  obtain ⟨_, cv9, dv9⟩ := hv
  replace h := q_be h
  obtain ⟨a10, ea10, h⟩ := h
  subst ea10
  replace h := q_be h
  obtain ⟨v11, hv, h⟩ := h
  replace hv := q_aI_e hv
  obtain ⟨_, _, cv11, iv11, yv11⟩ := hv
  replace h := q_be h
  obtain ⟨v12, hv, h⟩ := h
  replace hv := q_fR_e hv
  obtain ⟨_, cv12, dv12⟩ := hv
  replace h := q_be h
  obtain ⟨a13, ea13, h⟩ := h
  subst ea13
  replace h := q_be h
  obtain ⟨v14, hv, h⟩ := h
  replace hv := q_aI_e hv
  obtain ⟨_, _, cv14, iv14, yv14⟩ := hv
  replace h := q_be h
  obtain ⟨u15, hv, h⟩ := h
  replace hv := q_ob_e hv
  obtain ⟨_, cu15⟩ := hv
  replace h := q_be h
  obtain ⟨v16, hv, h⟩ := h
  refine ⟨⟨some _, rfl⟩, ⟨some _, rfl⟩, _, _, cv6, dv6, _, _, cv8, iv8, _, yv8, ⟨some _, rfl⟩, _, _, cv9, dv9, _, _, cv11, iv11, _, yv11, ⟨some _, rfl⟩, _, _, cv12, dv12, _, _, cv14, iv14, _, yv14, ⟨_, cu15⟩, ?_⟩
  refine rX1_dab hv ?_
  exact ps_weak (pjX1_sweep_52 h hk) ⟨rfl, trivial⟩
noncomputable def jX11_stroke_221_100 (g : ps_G) (x0 : Nat) (x2 : Int32) (x3 : Option Nat) (x4 : Int32) (x5 : Int32) (x6 : Nat) (x7 : Int32) (x8 : Int32) (x9 : Int32) (x10 : Int32) (k0 : Int32) : Option ((Int32 × ps_G) ⊕ (ps_G)) := Option.bind (x3) fun a63 => Option.bind (q_fR 4 15 g a63) fun v64 => Option.bind (v64) fun a65 => Option.bind (q_aI g a65 x9) fun v66 => Option.bind (fX11_put g (if ¬ x2 = (1 : Int32) then (if ¬ x2 = (3 : Int32) then (0 : Int32) else (2 : Int32)) else (1 : Int32)) v66 k0 x10) fun v67 => Option.bind (q_wI g x6 x9 v67) fun g68 => some (.inl (x8 + (1 : Int32), g68))
theorem pjX11_stroke_221_100 {d : Nat} {Q : ps_Rs → ps_G → Prop} {g : ps_G} {x0 : Nat} {x2 : Int32} {x3 : Option Nat} {x4 : Int32} {x5 : Int32} {x6 : Nat} {x7 : Int32} {x8 : Int32} {x9 : Int32} {x10 : Int32} {k0 : Int32} {x : (Int32 × ps_G) ⊕ (ps_G)} (h : jX11_stroke_221_100 g x0 x2 x3 x4 x5 x6 x7 x8 x9 x10 k0 = some x) (hh : ∀ s' : Int32 × ps_G, x = .inl s' → ps_At mX11_stroke (d + 8) 100 [(0, .ref x0), (2, .int x2), (3, va_rf x3), (4, .int x4), (5, .int x5), (6, .ref x6), (7, .int x7), (8, .int s'.1)] [] s'.2 Q) (he : ∀ r' : ps_G, x = .inr r' → ps_At mX11_stroke (d + 8) 267 [(0, .ref x0), (2, .int x2), (3, va_rf x3), (4, .int x4), (5, .int x5), (6, .ref x6), (7, .int x7)] [] r' Q) : ps_At mX11_stroke (d + 8) 221 [(0, .ref x0), (2, .int x2), (3, va_rf x3), (4, .int x4), (5, .int x5), (6, .ref x6), (7, .int x7), (8, .int x8), (9, .int x9), (10, .int x10)] [.int k0] g Q := by
  unfold jX11_stroke_221_100 at h
  refine sX11_stroke_221 ?_
  have kJ62 : ∀ w61 : Int32, w61 = (if ¬ x2 = (1 : Int32) then (if ¬ x2 = (3 : Int32) then (0 : Int32) else (2 : Int32)) else (1 : Int32)) → ps_At mX11_stroke (d + 8) 246 [(0, .ref x0), (2, .int x2), (3, va_rf x3), (4, .int x4), (5, .int x5), (6, .ref x6), (7, .int x7), (8, .int x8), (9, .int x9), (10, .int x10), (11, .int k0)] [.int w61, .int x9, .ref x6] g Q := by
    rintro _ rfl
    refine sX11_stroke_246 ?_
    replace h := q_be h
    obtain ⟨a63, ea63, h⟩ := h
    subst ea63
    replace h := q_be h
    obtain ⟨v64, hv, h⟩ := h
    replace hv := q_fR_e hv
    obtain ⟨_, cv64, dv64⟩ := hv
    replace h := q_be h
    obtain ⟨a65, ea65, h⟩ := h
    subst ea65
    replace h := q_be h
    obtain ⟨v66, hv, h⟩ := h
    replace hv := q_aI_e hv
    obtain ⟨_, _, cv66, iv66, yv66⟩ := hv
    replace h := q_be h
    obtain ⟨v67, hv, h⟩ := h
    refine ⟨⟨some _, rfl⟩, _, _, cv64, dv64, _, _, cv66, iv66, _, yv66, ?_⟩
    refine rX11_put hv ?_
    replace h := q_be h
    obtain ⟨g68, hv, h⟩ := h
    replace hv := q_wI_e hv
    obtain ⟨_, _, cg68, pg68, ig68, yg68⟩ := hv
    refine ⟨_, _, cg68, pg68, ig68, _, yg68, by decide, ?_⟩
    exact ps_weak (hh (x8 + (1 : Int32), g68) (Option.some.inj h).symm) ⟨rfl, rfl, rfl, rfl, rfl, rfl, rfl, rfl, trivial⟩
  refine ⟨by decide, ⟨some _, rfl⟩, ?_⟩
  refine And.intro (fun hc60 => ?_) (fun hc60 => ?_)
  · refine sX11_stroke_236 ?_
    have kJ71 : ∀ w70 : Int32, w70 = (if ¬ x2 = (3 : Int32) then (0 : Int32) else (2 : Int32)) → ps_At mX11_stroke (d + 8) 246 [(0, .ref x0), (2, .int x2), (3, va_rf x3), (4, .int x4), (5, .int x5), (6, .ref x6), (7, .int x7), (8, .int x8), (9, .int x9), (10, .int x10), (11, .int k0)] [.int w70, .int x9, .ref x6] g Q := by
      rintro _ rfl
      exact ps_weak (kJ62 _ (if_pos (hc60)).symm) ⟨(by first | rfl | (cases x3 <;> rfl)), (by first | rfl | (cases x3 <;> rfl)), (by first | rfl | (cases x3 <;> rfl)), (by first | rfl | (cases x3 <;> rfl)), (by first | rfl | (cases x3 <;> rfl)), (by first | rfl | (cases x3 <;> rfl)), (by first | rfl | (cases x3 <;> rfl)), (by first | rfl | (cases x3 <;> rfl)), (by first | rfl | (cases x3 <;> rfl)), (by first | rfl | (cases x3 <;> rfl)), (by first | rfl | (cases x3 <;> rfl)), trivial⟩
    refine And.intro (fun hc69 => ?_) (fun hc69 => ?_)
    · refine sX11_stroke_245 ?_
      exact ps_weak (kJ71 _ (if_pos (hc69)).symm) ⟨(by first | rfl | (cases x3 <;> rfl)), (by first | rfl | (cases x3 <;> rfl)), (by first | rfl | (cases x3 <;> rfl)), (by first | rfl | (cases x3 <;> rfl)), (by first | rfl | (cases x3 <;> rfl)), (by first | rfl | (cases x3 <;> rfl)), (by first | rfl | (cases x3 <;> rfl)), (by first | rfl | (cases x3 <;> rfl)), (by first | rfl | (cases x3 <;> rfl)), (by first | rfl | (cases x3 <;> rfl)), (by first | rfl | (cases x3 <;> rfl)), trivial⟩
    · exact ps_weak (kJ71 _ (if_neg (hc69)).symm) ⟨(by first | rfl | (cases x3 <;> rfl)), (by first | rfl | (cases x3 <;> rfl)), (by first | rfl | (cases x3 <;> rfl)), (by first | rfl | (cases x3 <;> rfl)), (by first | rfl | (cases x3 <;> rfl)), (by first | rfl | (cases x3 <;> rfl)), (by first | rfl | (cases x3 <;> rfl)), (by first | rfl | (cases x3 <;> rfl)), (by first | rfl | (cases x3 <;> rfl)), (by first | rfl | (cases x3 <;> rfl)), (by first | rfl | (cases x3 <;> rfl)), trivial⟩
  · exact ps_weak (kJ62 _ (if_neg (hc60)).symm) ⟨(by first | rfl | (cases x3 <;> rfl)), (by first | rfl | (cases x3 <;> rfl)), (by first | rfl | (cases x3 <;> rfl)), (by first | rfl | (cases x3 <;> rfl)), (by first | rfl | (cases x3 <;> rfl)), (by first | rfl | (cases x3 <;> rfl)), (by first | rfl | (cases x3 <;> rfl)), (by first | rfl | (cases x3 <;> rfl)), (by first | rfl | (cases x3 <;> rfl)), (by first | rfl | (cases x3 <;> rfl)), (by first | rfl | (cases x3 <;> rfl)), trivial⟩
noncomputable def bX11_stroke_100 (x0 : Nat) (x2 : Int32) (x3 : Option Nat) (x4 : Int32) (x5 : Int32) (x6 : Nat) (x7 : Int32) (x8 : Int32) (g : ps_G) : Option ((Int32 × ps_G) ⊕ (ps_G)) := if x4 ≤ x8 then (some (.inr g)) else (Option.bind (q_fR 11 8 g x0) fun v37 => Option.bind (v37) fun a38 => Option.bind (q_fR 1 12 g a38) fun v39 => Option.bind (v39) fun a40 => Option.bind (q_aI g a40 ((x7 * x4) + x8)) fun v41 => Option.bind (q_fR 11 8 g x0) fun v42 => Option.bind (v42) fun a43 => Option.bind (q_fI 1 5 g a43) fun v44 => Option.bind (q_fR 11 7 g x0) fun v45 => Option.bind (v45) fun a46 => Option.bind (x3) fun a47 => Option.bind (q_fI 4 7 g a47) fun v48 => Option.bind (q_fI 4 8 g a47) fun v49 => Option.bind (q_ob 0 g a46) fun u50 => Option.bind (fX0_at g a46 (x8 + v48) (x7 + v49)) fun v51 => if ¬ x2 = (2 : Int32) then (if ¬ x2 = (3 : Int32) then (Option.bind (q_fR 11 8 g x0) fun v57 => Option.bind (v57) fun a58 => Option.bind (q_fI 1 0 g a58) fun v59 => jX11_stroke_221_100 g x0 x2 (some a47) x4 x5 x6 x7 x8 ((x7 * x4) + x8) (fX11_mul (fX11_mul v41 v44) v51) v59) else (Option.bind (q_fR 11 17 g x0) fun v72 => Option.bind (v72) fun a73 => Option.bind (q_aI g a73 ((x7 * x4) + x8)) fun v74 => jX11_stroke_221_100 g x0 x2 (some a47) x4 x5 x6 x7 x8 ((x7 * x4) + x8) (fX11_mul (fX11_mul v41 v44) v51) v74)) else (Option.bind (q_fR 11 8 g x0) fun v77 => Option.bind (v77) fun a78 => Option.bind (q_fI 1 6 g a78) fun v79 => Option.bind (q_fR 11 8 g x0) fun v80 => Option.bind (v80) fun a81 => Option.bind (q_fI 1 7 g a81) fun v82 => Option.bind (q_ob 4 g a47) fun u83 => Option.bind (fX4_own g a47 (x8 + v79) (x7 + v82) x4 x5) fun v84 => jX11_stroke_221_100 g x0 x2 (some a47) x4 x5 x6 x7 x8 ((x7 * x4) + x8) (fX11_mul (fX11_mul v41 v44) v51) v84))
theorem pbX11_stroke_100 {d : Nat} {Q : ps_Rs → ps_G → Prop}  {x0 : Nat} {x2 : Int32} {x3 : Option Nat} {x4 : Int32} {x5 : Int32} {x6 : Nat} {x7 : Int32} {x8 : Int32} {g : ps_G} {x : (Int32 × ps_G) ⊕ (ps_G)} (h : bX11_stroke_100 x0 x2 x3 x4 x5 x6 x7 x8 g = some x) (hh : ∀ s' : Int32 × ps_G, x = .inl s' → ps_At mX11_stroke (d + 8) 100 [(0, .ref x0), (2, .int x2), (3, va_rf x3), (4, .int x4), (5, .int x5), (6, .ref x6), (7, .int x7), (8, .int s'.1)] [] s'.2 Q) (he : ∀ r' : ps_G, x = .inr r' → ps_At mX11_stroke (d + 8) 267 [(0, .ref x0), (2, .int x2), (3, va_rf x3), (4, .int x4), (5, .int x5), (6, .ref x6), (7, .int x7)] [] r' Q) : ps_At mX11_stroke (d + 8) 100 [(0, .ref x0), (2, .int x2), (3, va_rf x3), (4, .int x4), (5, .int x5), (6, .ref x6), (7, .int x7), (8, .int x8)] [] g Q := by
  unfold bX11_stroke_100 at h
  refine sX11_stroke_100 ?_
  refine And.intro (fun hc35 => ?_) (fun hc35 => ?_)
  · replace h := q_ifp (hc35) h
    exact ps_weak (he g (Option.some.inj h).symm) ⟨(by first | rfl | (cases x3 <;> rfl)), (by first | rfl | (cases x3 <;> rfl)), (by first | rfl | (cases x3 <;> rfl)), (by first | rfl | (cases x3 <;> rfl)), (by first | rfl | (cases x3 <;> rfl)), (by first | rfl | (cases x3 <;> rfl)), (by first | rfl | (cases x3 <;> rfl)), trivial⟩
  · replace h := q_ifn (hc35) h
    replace h := q_be h
    obtain ⟨v37, hv, h⟩ := h
    replace hv := q_fR_e hv
    obtain ⟨_, cv37, dv37⟩ := hv
    replace h := q_be h
    obtain ⟨a38, ea38, h⟩ := h
    subst ea38
    replace h := q_be h
    obtain ⟨v39, hv, h⟩ := h
    replace hv := q_fR_e hv
    obtain ⟨_, cv39, dv39⟩ := hv
    replace h := q_be h
    obtain ⟨a40, ea40, h⟩ := h
    subst ea40
    replace h := q_be h
    obtain ⟨v41, hv, h⟩ := h
    replace hv := q_aI_e hv
    obtain ⟨_, _, cv41, iv41, yv41⟩ := hv
    replace h := q_be h
    obtain ⟨v42, hv, h⟩ := h
    replace hv := q_fR_e hv
    obtain ⟨_, cv42, dv42⟩ := hv
    replace h := q_be h
    obtain ⟨a43, ea43, h⟩ := h
    subst ea43
    replace h := q_be h
    obtain ⟨v44, hv, h⟩ := h
    replace hv := q_fI_e hv
    obtain ⟨_, cv44, dv44⟩ := hv
    refine ⟨by decide, ⟨some _, rfl⟩, _, _, cv37, dv37, _, _, cv39, dv39, _, _, cv41, iv41, _, yv41, ⟨some _, rfl⟩, _, _, cv42, dv42, _, _, cv44, dv44, ?_⟩
    refine rX11_mul rfl ?_
    replace h := q_be h
    obtain ⟨v45, hv, h⟩ := h
    replace hv := q_fR_e hv
    obtain ⟨_, cv45, dv45⟩ := hv
    replace h := q_be h
    obtain ⟨a46, ea46, h⟩ := h
    subst ea46
    replace h := q_be h
    obtain ⟨a47, ea47, h⟩ := h
    subst ea47
    replace h := q_be h
    obtain ⟨v48, hv, h⟩ := h
    replace hv := q_fI_e hv
    obtain ⟨_, cv48, dv48⟩ := hv
    replace h := q_be h
    obtain ⟨v49, hv, h⟩ := h
    replace hv := q_fI_e hv
    obtain ⟨_, cv49, dv49⟩ := hv
    replace h := q_be h
    obtain ⟨u50, hv, h⟩ := h
    replace hv := q_ob_e hv
    obtain ⟨_, cu50⟩ := hv
    replace h := q_be h
    obtain ⟨v51, hv, h⟩ := h
    refine ⟨⟨some _, rfl⟩, _, _, cv45, dv45, ⟨some _, rfl⟩, _, _, cv48, dv48, ⟨some _, rfl⟩, _, _, cv49, dv49, ⟨_, cu50⟩, ?_⟩
    refine rX0_at hv ?_
    refine rX11_mul rfl ?_
    refine ⟨by decide, ?_⟩
    refine And.intro (fun hc52 => ?_) (fun hc52 => ?_)
    · replace h := q_ifp (hc52) h
      refine sX11_stroke_199 ?_
      refine And.intro (fun hc55 => ?_) (fun hc55 => ?_)
      · replace h := q_ifp (hc55) h
        refine sX11_stroke_214 ?_
        replace h := q_be h
        obtain ⟨v57, hv, h⟩ := h
        replace hv := q_fR_e hv
        obtain ⟨_, cv57, dv57⟩ := hv
        replace h := q_be h
        obtain ⟨a58, ea58, h⟩ := h
        subst ea58
        replace h := q_be h
        obtain ⟨v59, hv, h⟩ := h
        replace hv := q_fI_e hv
        obtain ⟨_, cv59, dv59⟩ := hv
        refine ⟨⟨some _, rfl⟩, _, _, cv57, dv57, _, _, cv59, dv59, ?_⟩
        exact ps_weak (pjX11_stroke_221_100 h hh he) ⟨rfl, rfl, rfl, rfl, rfl, rfl, rfl, rfl, rfl, rfl, trivial⟩
      · replace h := q_ifn (hc55) h
        replace h := q_be h
        obtain ⟨v72, hv, h⟩ := h
        replace hv := q_fR_e hv
        obtain ⟨_, cv72, dv72⟩ := hv
        replace h := q_be h
        obtain ⟨a73, ea73, h⟩ := h
        subst ea73
        replace h := q_be h
        obtain ⟨v74, hv, h⟩ := h
        replace hv := q_aI_e hv
        obtain ⟨_, _, cv74, iv74, yv74⟩ := hv
        refine ⟨⟨some _, rfl⟩, _, _, cv72, dv72, _, _, cv74, iv74, _, yv74, ?_⟩
        exact ps_weak (pjX11_stroke_221_100 h hh he) ⟨rfl, rfl, rfl, rfl, rfl, rfl, rfl, rfl, rfl, rfl, trivial⟩
    · replace h := q_ifn (hc52) h
      replace h := q_be h
      obtain ⟨v77, hv, h⟩ := h
      replace hv := q_fR_e hv
      obtain ⟨_, cv77, dv77⟩ := hv
      replace h := q_be h
      obtain ⟨a78, ea78, h⟩ := h
      subst ea78
      replace h := q_be h
      obtain ⟨v79, hv, h⟩ := h
      replace hv := q_fI_e hv
      obtain ⟨_, cv79, dv79⟩ := hv
      replace h := q_be h
      obtain ⟨v80, hv, h⟩ := h
      replace hv := q_fR_e hv
      obtain ⟨_, cv80, dv80⟩ := hv
      replace h := q_be h
      obtain ⟨a81, ea81, h⟩ := h
      subst ea81
      replace h := q_be h
      obtain ⟨v82, hv, h⟩ := h
      replace hv := q_fI_e hv
      obtain ⟨_, cv82, dv82⟩ := hv
      replace h := q_be h
      obtain ⟨u83, hv, h⟩ := h
      replace hv := q_ob_e hv
      obtain ⟨_, cu83⟩ := hv
      replace h := q_be h
      obtain ⟨v84, hv, h⟩ := h
      refine ⟨⟨some _, rfl⟩, ⟨some _, rfl⟩, _, _, cv77, dv77, _, _, cv79, dv79, ⟨some _, rfl⟩, _, _, cv80, dv80, _, _, cv82, dv82, ⟨_, cu83⟩, ?_⟩
      refine rX4_own hv ?_
      refine sX11_stroke_196 ?_
      exact ps_weak (pjX11_stroke_221_100 h hh he) ⟨rfl, rfl, rfl, rfl, rfl, rfl, rfl, rfl, rfl, rfl, trivial⟩
noncomputable def bX11_stroke_90 (x0 : Nat) (x2 : Int32) (x3 : Option Nat) (x4 : Int32) (x5 : Int32) (x6 : Nat) (x7 : Int32) (g : ps_G) : Option ((Int32 × ps_G) ⊕ (ps_G)) := if x5 ≤ x7 then (some (.inr g)) else (Option.bind (q_lp (fun s => bX11_stroke_100 x0 x2 x3 x4 x5 x6 x7 s.1 s.2) ((0 : Int32), g)) fun s89 => some (.inl (x7 + (1 : Int32), s89)))
theorem pbX11_stroke_90 {d : Nat} {Q : ps_Rs → ps_G → Prop}  {x0 : Nat} {x2 : Int32} {x3 : Option Nat} {x4 : Int32} {x5 : Int32} {x6 : Nat} {x7 : Int32} {g : ps_G} {x : (Int32 × ps_G) ⊕ (ps_G)} (h : bX11_stroke_90 x0 x2 x3 x4 x5 x6 x7 g = some x) (hh : ∀ s' : Int32 × ps_G, x = .inl s' → ps_At mX11_stroke (d + 8) 90 [(0, .ref x0), (2, .int x2), (3, va_rf x3), (4, .int x4), (5, .int x5), (6, .ref x6), (7, .int s'.1)] [] s'.2 Q) (he : ∀ r' : ps_G, x = .inr r' → ps_At mX11_stroke (d + 8) 273 [(0, .ref x0), (3, va_rf x3), (6, .ref x6)] [] r' Q) : ps_At mX11_stroke (d + 8) 90 [(0, .ref x0), (2, .int x2), (3, va_rf x3), (4, .int x4), (5, .int x5), (6, .ref x6), (7, .int x7)] [] g Q := by
  unfold bX11_stroke_90 at h
  refine sX11_stroke_90 ?_
  refine And.intro (fun hc34 => ?_) (fun hc34 => ?_)
  · replace h := q_ifp (hc34) h
    exact ps_weak (he g (Option.some.inj h).symm) ⟨(by first | rfl | (cases x3 <;> rfl)), (by first | rfl | (cases x3 <;> rfl)), (by first | rfl | (cases x3 <;> rfl)), trivial⟩
  · replace h := q_ifn (hc34) h
    refine ⟨by decide, ?_⟩
    replace h := q_be h
    obtain ⟨s89, hl, h⟩ := h
    refine ps_weak (q_lp_ok hl (fun s => ps_At mX11_stroke (d + 8) 100 [(0, .ref x0), (2, .int x2), (3, va_rf x3), (4, .int x4), (5, .int x5), (6, .ref x6), (7, .int x7), (8, .int s.1)] [] s.2 Q) (fun r => ps_At mX11_stroke (d + 8) 267 [(0, .ref x0), (2, .int x2), (3, va_rf x3), (4, .int x4), (5, .int x5), (6, .ref x6), (7, .int x7)] [] r Q) (fun s x hb hh he => pbX11_stroke_100 hb hh he) ?_) ⟨(by first | rfl | (cases x3 <;> rfl)), (by first | rfl | (cases x3 <;> rfl)), (by first | rfl | (cases x3 <;> rfl)), (by first | rfl | (cases x3 <;> rfl)), (by first | rfl | (cases x3 <;> rfl)), (by first | rfl | (cases x3 <;> rfl)), (by first | rfl | (cases x3 <;> rfl)), (by first | rfl | (cases x3 <;> rfl)), trivial⟩
    refine (?_ : ps_At mX11_stroke (d + 8) 267 [(0, .ref x0), (2, .int x2), (3, va_rf x3), (4, .int x4), (5, .int x5), (6, .ref x6), (7, .int x7)] [] s89 Q)
    refine sX11_stroke_267 ?_
    refine ⟨by decide, ?_⟩
    exact ps_weak (hh (x7 + (1 : Int32), s89) (Option.some.inj h).symm) ⟨(by first | rfl | (cases x3 <;> rfl)), (by first | rfl | (cases x3 <;> rfl)), (by first | rfl | (cases x3 <;> rfl)), (by first | rfl | (cases x3 <;> rfl)), (by first | rfl | (cases x3 <;> rfl)), (by first | rfl | (cases x3 <;> rfl)), (by first | rfl | (cases x3 <;> rfl)), trivial⟩
noncomputable def jX11_stroke_39 (g : ps_G) (x0 : Nat) (x2 : Int32) (x3 : Option Nat) (x4 : Int32) : Option ((String ⊕ Int32) × ps_G) := Option.bind (q_fR 11 0 g x0) fun v17 => Option.bind (v17) fun a18 => Option.bind (q_fI 9 1 g a18) fun v19 => Option.bind (q_fR 11 8 g x0) fun v20 => Option.bind (v20) fun a21 => Option.bind (q_ob 1 g a21) fun u22 => Option.bind (fX1_sweep g a21 x4 v19) fun v23 => Option.bind (q_fR 11 5 v23 x0) fun v24 => Option.bind (v24) fun a25 => Option.bind (x3) fun a26 => Option.bind (q_fR 4 15 v23 a26) fun v27 => Option.bind (v27) fun a28 => Option.bind (q_fR 11 17 v23 x0) fun v29 => Option.bind (v29) fun a30 => Option.bind (q_ob 5 v23 a25) fun u31 => Option.bind (fX5_apply v23 a25 (0 : Int32) (1 : Int32) a28 a30 x4 v19) fun v32 => Option.bind (q_nA .int v32 (576 : Int32)) fun g33 => Option.bind (q_lp (fun s => bX11_stroke_90 x0 x2 (some a26) x4 v19 v32.1 s.1 s.2) ((0 : Int32), g33)) fun s92 => Option.bind (q_fR 11 8 s92 x0) fun v93 => Option.bind (v93) fun a94 => Option.bind (q_sI 1 8 s92 a94 (0 : Int32)) fun g95 => Option.bind (q_ob 11 g95 x0) fun u96 => q_b2 (fX11_repaint g95 x0 a26 v32.1) fun v97 g98 => some (.inr v97, g98)
theorem pjX11_stroke_39 {d : Nat} {Q : ps_Rs → ps_G → Prop} {g : ps_G} {x0 : Nat} {x2 : Int32} {x3 : Option Nat} {x4 : Int32} {r : (String ⊕ Int32) × ps_G} (h : jX11_stroke_39 g x0 x2 x3 x4 = some r) (hk : Q (q_rI r.1) r.2) : ps_At mX11_stroke (d + 8) 39 [(0, .ref x0), (2, .int x2), (3, va_rf x3), (4, .int x4)] [] g Q := by
  unfold jX11_stroke_39 at h
  refine sX11_stroke_39 ?_
  replace h := q_be h
  obtain ⟨v17, hv, h⟩ := h
  replace hv := q_fR_e hv
  obtain ⟨_, cv17, dv17⟩ := hv
  replace h := q_be h
  obtain ⟨a18, ea18, h⟩ := h
  subst ea18
  replace h := q_be h
  obtain ⟨v19, hv, h⟩ := h
  replace hv := q_fI_e hv
  obtain ⟨_, cv19, dv19⟩ := hv
  replace h := q_be h
  obtain ⟨v20, hv, h⟩ := h
  replace hv := q_fR_e hv
  obtain ⟨_, cv20, dv20⟩ := hv
  replace h := q_be h
  obtain ⟨a21, ea21, h⟩ := h
  subst ea21
  replace h := q_be h
  obtain ⟨u22, hv, h⟩ := h
  replace hv := q_ob_e hv
  obtain ⟨_, cu22⟩ := hv
  replace h := q_be h
  obtain ⟨v23, hv, h⟩ := h
  refine ⟨⟨some _, rfl⟩, _, _, cv17, dv17, _, _, cv19, dv19, by decide, ⟨some _, rfl⟩, _, _, cv20, dv20, ⟨_, cu22⟩, ?_⟩
  refine rX1_sweep hv ?_
  replace h := q_be h
  obtain ⟨v24, hv, h⟩ := h
  replace hv := q_fR_e hv
  obtain ⟨_, cv24, dv24⟩ := hv
  replace h := q_be h
  obtain ⟨a25, ea25, h⟩ := h
  subst ea25
  replace h := q_be h
  obtain ⟨a26, ea26, h⟩ := h
  subst ea26
  replace h := q_be h
  obtain ⟨v27, hv, h⟩ := h
  replace hv := q_fR_e hv
  obtain ⟨_, cv27, dv27⟩ := hv
  replace h := q_be h
  obtain ⟨a28, ea28, h⟩ := h
  subst ea28
  replace h := q_be h
  obtain ⟨v29, hv, h⟩ := h
  replace hv := q_fR_e hv
  obtain ⟨_, cv29, dv29⟩ := hv
  replace h := q_be h
  obtain ⟨a30, ea30, h⟩ := h
  subst ea30
  replace h := q_be h
  obtain ⟨u31, hv, h⟩ := h
  replace hv := q_ob_e hv
  obtain ⟨_, cu31⟩ := hv
  replace h := q_be h
  obtain ⟨v32, hv, h⟩ := h
  refine ⟨⟨some _, rfl⟩, _, _, cv24, dv24, ⟨some _, rfl⟩, _, _, cv27, dv27, ⟨some _, rfl⟩, _, _, cv29, dv29, ⟨_, cu31⟩, ?_⟩
  refine rX5_apply hv ?_
  replace h := q_be h
  obtain ⟨g33, hv, h⟩ := h
  replace hv := q_nA_e hv
  obtain ⟨ag33, bg33, yg33⟩ := hv
  refine ⟨Or.inl rfl, ag33, bg33, _, yg33, some _, _, rfl, by decide, by decide, ?_⟩
  replace h := q_be h
  obtain ⟨s92, hl, h⟩ := h
  refine ps_weak (q_lp_ok hl (fun s => ps_At mX11_stroke (d + 8) 90 [(0, .ref x0), (2, .int x2), (3, va_rf (some a26)), (4, .int x4), (5, .int v19), (6, .ref v32.1), (7, .int s.1)] [] s.2 Q) (fun r => ps_At mX11_stroke (d + 8) 273 [(0, .ref x0), (3, va_rf (some a26)), (6, .ref v32.1)] [] r Q) (fun s x hb hh he => pbX11_stroke_90 hb hh he) ?_) ⟨rfl, rfl, rfl, rfl, rfl, rfl, rfl, trivial⟩
  refine (?_ : ps_At mX11_stroke (d + 8) 273 [(0, .ref x0), (3, va_rf (some a26)), (6, .ref v32.1)] [] s92 Q)
  refine sX11_stroke_273 ?_
  replace h := q_be h
  obtain ⟨v93, hv, h⟩ := h
  replace hv := q_fR_e hv
  obtain ⟨_, cv93, dv93⟩ := hv
  replace h := q_be h
  obtain ⟨a94, ea94, h⟩ := h
  subst ea94
  replace h := q_be h
  obtain ⟨g95, hv, h⟩ := h
  replace hv := q_sI_e hv
  obtain ⟨_, cg95, dg95, yg95⟩ := hv
  replace h := q_be h
  obtain ⟨u96, hv, h⟩ := h
  replace hv := q_ob_e hv
  obtain ⟨_, cu96⟩ := hv
  replace h := q_b2_e h
  obtain ⟨v97, g98, hv, h⟩ := h
  refine ⟨⟨some _, rfl⟩, _, _, cv93, dv93, _, cg95, dg95, rfl, rfl, _, yg95, ⟨some _, rfl⟩, ⟨some _, rfl⟩, ⟨some _, rfl⟩, ⟨_, cu96⟩, ?_⟩
  refine rX11_repaint hv ?_
  cases h
  exact ⟨rfl, hk⟩
noncomputable def fX11_stroke (g : ps_G) (x0 : Nat) (x1 : Int32) (x2 : Int32) : Option ((String ⊕ Int32) × ps_G) := q_tc (fX11_range g x2 (0 : Int32) (3 : Int32)) fun v1 g2 => Option.bind (q_ob 11 g2 x0) fun u3 => q_tc (fX11_knownPixels g2 x0 x1) fun v4 g5 => Option.bind (q_fR 11 8 g5 x0) fun v6 => Option.bind (v6) fun a7 => Option.bind (q_fI 1 8 g5 a7) fun v8 => q_tc (fX11_refuse g5 (if 0 < v8 then (0 : Int32) else (1 : Int32))) fun v12 g13 => Option.bind (q_fR 11 0 g13 x0) fun v14 => Option.bind (v14) fun a15 => Option.bind (q_fI 9 0 g13 a15) fun v16 => jX11_stroke_39 g13 x0 x2 v4 v16
theorem rX11_stroke {d : Nat} {Q : ps_Rs → ps_G → Prop} {g : ps_G} {x0 : Nat} {x1 : Int32} {x2 : Int32} {r : (String ⊕ Int32) × ps_G} (h : fX11_stroke g x0 x1 x2 = some r) (hk : Q (q_rI r.1) r.2) : ps_Ok mX11_stroke (d + 8) [.ref x0, .int x1, .int x2] g Q := by
  unfold fX11_stroke at h
  refine sX11_stroke_0 ?_
  replace h := q_tc_e h
  rcases h with ⟨E, g2, hv, rfl⟩ | ⟨v1, g2, hv, h⟩
  · exact rX11_range hv ⟨rfl, hk⟩
  refine rX11_range hv ?_
  replace h := q_be h
  obtain ⟨u3, hv, h⟩ := h
  replace hv := q_ob_e hv
  obtain ⟨_, cu3⟩ := hv
  refine ⟨⟨some _, rfl⟩, ⟨_, cu3⟩, ?_⟩
  replace h := q_tc_e h
  rcases h with ⟨E, g5, hv, rfl⟩ | ⟨v4, g5, hv, h⟩
  · exact rX11_knownPixels hv hk
  refine rX11_knownPixels hv ?_
  replace h := q_be h
  obtain ⟨v6, hv, h⟩ := h
  replace hv := q_fR_e hv
  obtain ⟨_, cv6, dv6⟩ := hv
  replace h := q_be h
  obtain ⟨a7, ea7, h⟩ := h
  subst ea7
  replace h := q_be h
  obtain ⟨v8, hv, h⟩ := h
  replace hv := q_fI_e hv
  obtain ⟨_, cv8, dv8⟩ := hv
  have kJ11 : ∀ w10 : Int32, w10 = (if 0 < v8 then (0 : Int32) else (1 : Int32)) → ps_At mX11_stroke (d + 8) 27 [(0, .ref x0), (2, .int x2), (3, va_rf v4)] [.int w10] g5 Q := by
    rintro _ rfl
    refine sX11_stroke_27 ?_
    replace h := q_tc_e h
    rcases h with ⟨E, g13, hv, rfl⟩ | ⟨v12, g13, hv, h⟩
    · exact rX11_refuse hv ⟨rfl, hk⟩
    refine rX11_refuse hv ?_
    replace h := q_be h
    obtain ⟨v14, hv, h⟩ := h
    replace hv := q_fR_e hv
    obtain ⟨_, cv14, dv14⟩ := hv
    replace h := q_be h
    obtain ⟨a15, ea15, h⟩ := h
    subst ea15
    replace h := q_be h
    obtain ⟨v16, hv, h⟩ := h
    replace hv := q_fI_e hv
    obtain ⟨_, cv16, dv16⟩ := hv
    refine ⟨⟨some _, rfl⟩, _, _, cv14, dv14, _, _, cv16, dv16, by decide, ?_⟩
    refine ps_weak (lv' := [(0, .ref x0), (2, .int x2), (3, va_rf v4), (4, .int v16)]) ?_ ⟨(by first | rfl | (cases v4 <;> rfl)), (by first | rfl | (cases v4 <;> rfl)), (by first | rfl | (cases v4 <;> rfl)), (by first | rfl | (cases v4 <;> rfl)), trivial⟩
    exact ps_weak (pjX11_stroke_39 h hk) ⟨(by first | rfl | (cases v4 <;> rfl)), (by first | rfl | (cases v4 <;> rfl)), (by first | rfl | (cases v4 <;> rfl)), (by first | rfl | (cases v4 <;> rfl)), trivial⟩
  refine ⟨_, _, rfl, by decide, ⟨some _, rfl⟩, _, _, cv6, dv6, _, _, cv8, dv8, ?_⟩
  refine And.intro (fun hc9 => ?_) (fun hc9 => ?_)
  · refine sX11_stroke_26 ?_
    exact ps_weak (kJ11 _ (if_pos (hc9)).symm) ⟨(by first | rfl | (cases v4 <;> rfl)), (by first | rfl | (cases v4 <;> rfl)), (by first | rfl | (cases v4 <;> rfl)), trivial⟩
  · exact ps_weak (kJ11 _ (if_neg (hc9)).symm) ⟨(by first | rfl | (cases v4 <;> rfl)), (by first | rfl | (cases v4 <;> rfl)), (by first | rfl | (cases v4 <;> rfl)), trivial⟩
noncomputable def bX11_filter_69 (x0 : Nat) (x4 : Option Nat) (x5 : Nat) (x6 : Int32) (x7 : Int32) (g : ps_G) : Option ((Int32 × ps_G) ⊕ (ps_G)) := Option.bind (q_fR 11 0 g x0) fun v26 => Option.bind (v26) fun a27 => Option.bind (q_fI 9 0 g a27) fun v28 => if v28 ≤ x7 then (some (.inr g)) else (Option.bind (q_fR 11 0 g x0) fun v31 => Option.bind (v31) fun a32 => Option.bind (q_fI 9 0 g a32) fun v33 => Option.bind (x4) fun a34 => Option.bind (q_fR 4 15 g a34) fun v35 => Option.bind (v35) fun a36 => Option.bind (q_aI g a36 ((x6 * v33) + x7)) fun v37 => Option.bind (q_fR 11 17 g x0) fun v38 => Option.bind (v38) fun a39 => Option.bind (q_aI g a39 ((x6 * v33) + x7)) fun v40 => Option.bind (q_fR 11 7 g x0) fun v41 => Option.bind (v41) fun a42 => Option.bind (q_fI 4 7 g a34) fun v43 => Option.bind (q_fI 4 8 g a34) fun v44 => Option.bind (q_ob 0 g a42) fun u45 => Option.bind (fX0_at g a42 (x7 + v43) (x6 + v44)) fun v46 => Option.bind (q_wI g x5 ((x6 * v33) + x7) (fX11_mixColours v37 v40 v46)) fun g47 => some (.inl (x7 + (1 : Int32), g47)))
theorem pbX11_filter_69 {d : Nat} {Q : ps_Rs → ps_G → Prop}  {x0 : Nat} {x4 : Option Nat} {x5 : Nat} {x6 : Int32} {x7 : Int32} {g : ps_G} {x : (Int32 × ps_G) ⊕ (ps_G)} (h : bX11_filter_69 x0 x4 x5 x6 x7 g = some x) (hh : ∀ s' : Int32 × ps_G, x = .inl s' → ps_At mX11_filter (d + 8) 69 [(0, .ref x0), (4, va_rf x4), (5, .ref x5), (6, .int x6), (7, .int s'.1)] [] s'.2 Q) (he : ∀ r' : ps_G, x = .inr r' → ps_At mX11_filter (d + 8) 148 [(0, .ref x0), (4, va_rf x4), (5, .ref x5), (6, .int x6)] [] r' Q) : ps_At mX11_filter (d + 8) 69 [(0, .ref x0), (4, va_rf x4), (5, .ref x5), (6, .int x6), (7, .int x7)] [] g Q := by
  unfold bX11_filter_69 at h
  refine sX11_filter_69 ?_
  replace h := q_be h
  obtain ⟨v26, hv, h⟩ := h
  replace hv := q_fR_e hv
  obtain ⟨_, cv26, dv26⟩ := hv
  replace h := q_be h
  obtain ⟨a27, ea27, h⟩ := h
  subst ea27
  replace h := q_be h
  obtain ⟨v28, hv, h⟩ := h
  replace hv := q_fI_e hv
  obtain ⟨_, cv28, dv28⟩ := hv
  refine ⟨⟨some _, rfl⟩, _, _, cv26, dv26, _, _, cv28, dv28, ?_⟩
  refine And.intro (fun hc29 => ?_) (fun hc29 => ?_)
  · replace h := q_ifp (hc29) h
    exact ps_weak (he g (Option.some.inj h).symm) ⟨(by first | rfl | (cases x4 <;> rfl)), (by first | rfl | (cases x4 <;> rfl)), (by first | rfl | (cases x4 <;> rfl)), (by first | rfl | (cases x4 <;> rfl)), trivial⟩
  · replace h := q_ifn (hc29) h
    replace h := q_be h
    obtain ⟨v31, hv, h⟩ := h
    replace hv := q_fR_e hv
    obtain ⟨_, cv31, dv31⟩ := hv
    replace h := q_be h
    obtain ⟨a32, ea32, h⟩ := h
    subst ea32
    replace h := q_be h
    obtain ⟨v33, hv, h⟩ := h
    replace hv := q_fI_e hv
    obtain ⟨_, cv33, dv33⟩ := hv
    replace h := q_be h
    obtain ⟨a34, ea34, h⟩ := h
    subst ea34
    replace h := q_be h
    obtain ⟨v35, hv, h⟩ := h
    replace hv := q_fR_e hv
    obtain ⟨_, cv35, dv35⟩ := hv
    replace h := q_be h
    obtain ⟨a36, ea36, h⟩ := h
    subst ea36
    replace h := q_be h
    obtain ⟨v37, hv, h⟩ := h
    replace hv := q_aI_e hv
    obtain ⟨_, _, cv37, iv37, yv37⟩ := hv
    replace h := q_be h
    obtain ⟨v38, hv, h⟩ := h
    replace hv := q_fR_e hv
    obtain ⟨_, cv38, dv38⟩ := hv
    replace h := q_be h
    obtain ⟨a39, ea39, h⟩ := h
    subst ea39
    replace h := q_be h
    obtain ⟨v40, hv, h⟩ := h
    replace hv := q_aI_e hv
    obtain ⟨_, _, cv40, iv40, yv40⟩ := hv
    replace h := q_be h
    obtain ⟨v41, hv, h⟩ := h
    replace hv := q_fR_e hv
    obtain ⟨_, cv41, dv41⟩ := hv
    replace h := q_be h
    obtain ⟨a42, ea42, h⟩ := h
    subst ea42
    replace h := q_be h
    obtain ⟨v43, hv, h⟩ := h
    replace hv := q_fI_e hv
    obtain ⟨_, cv43, dv43⟩ := hv
    refine ⟨⟨some _, rfl⟩, _, _, cv31, dv31, _, _, cv33, dv33, by decide, ⟨some _, rfl⟩, ⟨some _, rfl⟩, _, _, cv35, dv35, _, _, cv37, iv37, _, yv37, ⟨some _, rfl⟩, _, _, cv38, dv38, _, _, cv40, iv40, _, yv40, ⟨some _, rfl⟩, _, _, cv41, dv41, ⟨some _, rfl⟩, _, _, cv43, dv43, ?_⟩
    replace h := q_be h
    obtain ⟨v44, hv, h⟩ := h
    replace hv := q_fI_e hv
    obtain ⟨_, cv44, dv44⟩ := hv
    replace h := q_be h
    obtain ⟨u45, hv, h⟩ := h
    replace hv := q_ob_e hv
    obtain ⟨_, cu45⟩ := hv
    replace h := q_be h
    obtain ⟨v46, hv, h⟩ := h
    refine ⟨⟨some _, rfl⟩, _, _, cv44, dv44, ⟨_, cu45⟩, ?_⟩
    refine rX0_at hv ?_
    refine rX11_mixColours rfl ?_
    replace h := q_be h
    obtain ⟨g47, hv, h⟩ := h
    replace hv := q_wI_e hv
    obtain ⟨_, _, cg47, pg47, ig47, yg47⟩ := hv
    refine ⟨_, _, cg47, pg47, ig47, _, yg47, by decide, ?_⟩
    exact ps_weak (hh (x7 + (1 : Int32), g47) (Option.some.inj h).symm) ⟨rfl, rfl, rfl, rfl, rfl, trivial⟩
noncomputable def bX11_filter_54 (x0 : Nat) (x4 : Option Nat) (x5 : Nat) (x6 : Int32) (g : ps_G) : Option ((Int32 × ps_G) ⊕ (ps_G)) := Option.bind (q_fR 11 0 g x0) fun v22 => Option.bind (v22) fun a23 => Option.bind (q_fI 9 1 g a23) fun v24 => if v24 ≤ x6 then (some (.inr g)) else (Option.bind (q_lp (fun s => bX11_filter_69 x0 x4 x5 x6 s.1 s.2) ((0 : Int32), g)) fun s50 => some (.inl (x6 + (1 : Int32), s50)))
theorem pbX11_filter_54 {d : Nat} {Q : ps_Rs → ps_G → Prop}  {x0 : Nat} {x4 : Option Nat} {x5 : Nat} {x6 : Int32} {g : ps_G} {x : (Int32 × ps_G) ⊕ (ps_G)} (h : bX11_filter_54 x0 x4 x5 x6 g = some x) (hh : ∀ s' : Int32 × ps_G, x = .inl s' → ps_At mX11_filter (d + 8) 54 [(0, .ref x0), (4, va_rf x4), (5, .ref x5), (6, .int s'.1)] [] s'.2 Q) (he : ∀ r' : ps_G, x = .inr r' → ps_At mX11_filter (d + 8) 154 [(0, .ref x0), (4, va_rf x4), (5, .ref x5)] [] r' Q) : ps_At mX11_filter (d + 8) 54 [(0, .ref x0), (4, va_rf x4), (5, .ref x5), (6, .int x6)] [] g Q := by
  unfold bX11_filter_54 at h
  refine sX11_filter_54 ?_
  replace h := q_be h
  obtain ⟨v22, hv, h⟩ := h
  replace hv := q_fR_e hv
  obtain ⟨_, cv22, dv22⟩ := hv
  replace h := q_be h
  obtain ⟨a23, ea23, h⟩ := h
  subst ea23
  replace h := q_be h
  obtain ⟨v24, hv, h⟩ := h
  replace hv := q_fI_e hv
  obtain ⟨_, cv24, dv24⟩ := hv
  refine ⟨⟨some _, rfl⟩, _, _, cv22, dv22, _, _, cv24, dv24, ?_⟩
  refine And.intro (fun hc25 => ?_) (fun hc25 => ?_)
  · replace h := q_ifp (hc25) h
    exact ps_weak (he g (Option.some.inj h).symm) ⟨(by first | rfl | (cases x4 <;> rfl)), (by first | rfl | (cases x4 <;> rfl)), (by first | rfl | (cases x4 <;> rfl)), trivial⟩
  · replace h := q_ifn (hc25) h
    refine ⟨by decide, ?_⟩
    replace h := q_be h
    obtain ⟨s50, hl, h⟩ := h
    refine ps_weak (q_lp_ok hl (fun s => ps_At mX11_filter (d + 8) 69 [(0, .ref x0), (4, va_rf x4), (5, .ref x5), (6, .int x6), (7, .int s.1)] [] s.2 Q) (fun r => ps_At mX11_filter (d + 8) 148 [(0, .ref x0), (4, va_rf x4), (5, .ref x5), (6, .int x6)] [] r Q) (fun s x hb hh he => pbX11_filter_69 hb hh he) ?_) ⟨(by first | rfl | (cases x4 <;> rfl)), (by first | rfl | (cases x4 <;> rfl)), (by first | rfl | (cases x4 <;> rfl)), (by first | rfl | (cases x4 <;> rfl)), (by first | rfl | (cases x4 <;> rfl)), trivial⟩
    refine (?_ : ps_At mX11_filter (d + 8) 148 [(0, .ref x0), (4, va_rf x4), (5, .ref x5), (6, .int x6)] [] s50 Q)
    refine sX11_filter_148 ?_
    refine ⟨by decide, ?_⟩
    exact ps_weak (hh (x6 + (1 : Int32), s50) (Option.some.inj h).symm) ⟨(by first | rfl | (cases x4 <;> rfl)), (by first | rfl | (cases x4 <;> rfl)), (by first | rfl | (cases x4 <;> rfl)), (by first | rfl | (cases x4 <;> rfl)), trivial⟩
noncomputable def fX11_filter (g : ps_G) (x0 : Nat) (x1 : Int32) (x2 : Int32) (x3 : Int32) : Option ((String ⊕ Int32) × ps_G) := q_tc (fX11_needFilter g x2 x3) fun v1 g2 => Option.bind (q_ob 11 g2 x0) fun u3 => q_tc (fX11_knownPixels g2 x0 x1) fun v4 g5 => Option.bind (q_fR 11 5 g5 x0) fun v6 => Option.bind (v6) fun a7 => Option.bind (v4) fun a8 => Option.bind (q_fR 4 15 g5 a8) fun v9 => Option.bind (v9) fun a10 => Option.bind (q_fR 11 17 g5 x0) fun v11 => Option.bind (v11) fun a12 => Option.bind (q_fR 11 0 g5 x0) fun v13 => Option.bind (v13) fun a14 => Option.bind (q_fI 9 0 g5 a14) fun v15 => Option.bind (q_fR 11 0 g5 x0) fun v16 => Option.bind (v16) fun a17 => Option.bind (q_fI 9 1 g5 a17) fun v18 => Option.bind (q_ob 5 g5 a7) fun u19 => Option.bind (fX5_apply g5 a7 x2 x3 a10 a12 v15 v18) fun v20 => Option.bind (q_nA .int v20 (576 : Int32)) fun g21 => Option.bind (q_lp (fun s => bX11_filter_54 x0 (some a8) v20.1 s.1 s.2) ((0 : Int32), g21)) fun s53 => Option.bind (q_ob 11 s53 x0) fun u54 => q_b2 (fX11_repaint s53 x0 a8 v20.1) fun v55 g56 => some (.inr v55, g56)
theorem rX11_filter {d : Nat} {Q : ps_Rs → ps_G → Prop} {g : ps_G} {x0 : Nat} {x1 : Int32} {x2 : Int32} {x3 : Int32} {r : (String ⊕ Int32) × ps_G} (h : fX11_filter g x0 x1 x2 x3 = some r) (hk : Q (q_rI r.1) r.2) : ps_Ok mX11_filter (d + 8) [.ref x0, .int x1, .int x2, .int x3] g Q := by
  unfold fX11_filter at h
  refine sX11_filter_0 ?_
  replace h := q_tc_e h
  rcases h with ⟨E, g2, hv, rfl⟩ | ⟨v1, g2, hv, h⟩
  · exact rX11_needFilter hv ⟨rfl, hk⟩
  refine rX11_needFilter hv ?_
  replace h := q_be h
  obtain ⟨u3, hv, h⟩ := h
  replace hv := q_ob_e hv
  obtain ⟨_, cu3⟩ := hv
  refine ⟨⟨some _, rfl⟩, ⟨_, cu3⟩, ?_⟩
  replace h := q_tc_e h
  rcases h with ⟨E, g5, hv, rfl⟩ | ⟨v4, g5, hv, h⟩
  · exact rX11_knownPixels hv hk
  refine rX11_knownPixels hv ?_
  replace h := q_be h
  obtain ⟨v6, hv, h⟩ := h
  replace hv := q_fR_e hv
  obtain ⟨_, cv6, dv6⟩ := hv
  replace h := q_be h
  obtain ⟨a7, ea7, h⟩ := h
  subst ea7
  replace h := q_be h
  obtain ⟨a8, ea8, h⟩ := h
  subst ea8
  replace h := q_be h
  obtain ⟨v9, hv, h⟩ := h
  replace hv := q_fR_e hv
  obtain ⟨_, cv9, dv9⟩ := hv
  replace h := q_be h
  obtain ⟨a10, ea10, h⟩ := h
  subst ea10
  replace h := q_be h
  obtain ⟨v11, hv, h⟩ := h
  replace hv := q_fR_e hv
  obtain ⟨_, cv11, dv11⟩ := hv
  replace h := q_be h
  obtain ⟨a12, ea12, h⟩ := h
  subst ea12
  replace h := q_be h
  obtain ⟨v13, hv, h⟩ := h
  replace hv := q_fR_e hv
  obtain ⟨_, cv13, dv13⟩ := hv
  replace h := q_be h
  obtain ⟨a14, ea14, h⟩ := h
  subst ea14
  replace h := q_be h
  obtain ⟨v15, hv, h⟩ := h
  replace hv := q_fI_e hv
  obtain ⟨_, cv15, dv15⟩ := hv
  replace h := q_be h
  obtain ⟨v16, hv, h⟩ := h
  replace hv := q_fR_e hv
  obtain ⟨_, cv16, dv16⟩ := hv
  replace h := q_be h
  obtain ⟨a17, ea17, h⟩ := h
  subst ea17
  replace h := q_be h
  obtain ⟨v18, hv, h⟩ := h
  replace hv := q_fI_e hv
  obtain ⟨_, cv18, dv18⟩ := hv
  replace h := q_be h
  obtain ⟨u19, hv, h⟩ := h
  replace hv := q_ob_e hv
  obtain ⟨_, cu19⟩ := hv
  replace h := q_be h
  obtain ⟨v20, hv, h⟩ := h
  refine ⟨_, _, rfl, by decide, ⟨some _, rfl⟩, _, _, cv6, dv6, ⟨some _, rfl⟩, _, _, cv9, dv9, ⟨some _, rfl⟩, _, _, cv11, dv11, ⟨some _, rfl⟩, _, _, cv13, dv13, _, _, cv15, dv15, ⟨some _, rfl⟩, _, _, cv16, dv16, _, _, cv18, dv18, ⟨_, cu19⟩, ?_⟩
  refine rX5_apply hv ?_
  replace h := q_be h
  obtain ⟨g21, hv, h⟩ := h
  replace hv := q_nA_e hv
  obtain ⟨ag21, bg21, yg21⟩ := hv
  refine ⟨Or.inl rfl, ag21, bg21, _, yg21, some _, _, rfl, by decide, by decide, ?_⟩
  replace h := q_be h
  obtain ⟨s53, hl, h⟩ := h
  refine ps_weak (q_lp_ok hl (fun s => ps_At mX11_filter (d + 8) 54 [(0, .ref x0), (4, va_rf (some a8)), (5, .ref v20.1), (6, .int s.1)] [] s.2 Q) (fun r => ps_At mX11_filter (d + 8) 154 [(0, .ref x0), (4, va_rf (some a8)), (5, .ref v20.1)] [] r Q) (fun s x hb hh he => pbX11_filter_54 hb hh he) ?_) ⟨rfl, rfl, rfl, rfl, trivial⟩
  refine (?_ : ps_At mX11_filter (d + 8) 154 [(0, .ref x0), (4, va_rf (some a8)), (5, .ref v20.1)] [] s53 Q)
  refine sX11_filter_154 ?_
  replace h := q_be h
  obtain ⟨u54, hv, h⟩ := h
  replace hv := q_ob_e hv
  obtain ⟨_, cu54⟩ := hv
  replace h := q_b2_e h
  obtain ⟨v55, g56, hv, h⟩ := h
  refine ⟨⟨some _, rfl⟩, ⟨some _, rfl⟩, ⟨some _, rfl⟩, ⟨_, cu54⟩, ?_⟩
  refine rX11_repaint hv ?_
  cases h
  exact ⟨rfl, hk⟩
noncomputable def jX6_lineTo_66 (g : ps_G) (x0 : Nat) (x1 : Int32) (x2 : Int32) : Option (ps_G) := Option.bind (q_sI 6 11 g x0 x1) fun g4 => Option.bind (q_sI 6 12 g4 x0 x2) fun g5 => some g5
theorem pjX6_lineTo_66 {d : Nat} {Q : ps_Rs → ps_G → Prop} {g : ps_G} {x0 : Nat} {x1 : Int32} {x2 : Int32} {r : ps_G} (h : jX6_lineTo_66 g x0 x1 x2 = some r) (hk : Q (.inl none) r) : ps_At mX6_lineTo d 66 [(0, .ref x0), (1, .int x1), (2, .int x2)] [] g Q := by
  unfold jX6_lineTo_66 at h
  refine sX6_lineTo_66 ?_
  replace h := q_be h
  obtain ⟨g4, hv, h⟩ := h
  replace hv := q_sI_e hv
  obtain ⟨_, cg4, dg4, yg4⟩ := hv
  replace h := q_be h
  obtain ⟨g5, hv, h⟩ := h
  replace hv := q_sI_e hv
  obtain ⟨_, cg5, dg5, yg5⟩ := hv
  cases h
  exact ⟨⟨some _, rfl⟩, _, cg4, dg4, rfl, rfl, _, yg4, ⟨some _, rfl⟩, _, cg5, dg5, rfl, rfl, _, yg5, rfl, rfl, hk⟩
noncomputable def fX6_lineTo (g : ps_G) (x0 : Nat) (x1 : Int32) (x2 : Int32) : Option (ps_G) := Option.bind (q_fI 6 10 g x0) fun v1 => if (400 : Int32) ≤ v1 then (jX6_lineTo_66 g x0 x1 x2) else (Option.bind (q_fR 6 6 g x0) fun v6 => Option.bind (v6) fun a7 => Option.bind (q_fI 6 10 g x0) fun v8 => Option.bind (q_fI 6 11 g x0) fun v9 => Option.bind (q_wI g a7 v8 v9) fun g10 => Option.bind (q_fR 6 7 g10 x0) fun v11 => Option.bind (v11) fun a12 => Option.bind (q_fI 6 10 g10 x0) fun v13 => Option.bind (q_fI 6 12 g10 x0) fun v14 => Option.bind (q_wI g10 a12 v13 v14) fun g15 => Option.bind (q_fR 6 8 g15 x0) fun v16 => Option.bind (v16) fun a17 => Option.bind (q_fI 6 10 g15 x0) fun v18 => Option.bind (q_wI g15 a17 v18 x1) fun g19 => Option.bind (q_fR 6 9 g19 x0) fun v20 => Option.bind (v20) fun a21 => Option.bind (q_fI 6 10 g19 x0) fun v22 => Option.bind (q_wI g19 a21 v22 x2) fun g23 => Option.bind (q_fI 6 10 g23 x0) fun v24 => Option.bind (q_sI 6 10 g23 x0 (v24 + (1 : Int32))) fun g25 => jX6_lineTo_66 g25 x0 x1 x2)
theorem rX6_lineTo {d : Nat} {Q : ps_Rs → ps_G → Prop} {g : ps_G} {x0 : Nat} {x1 : Int32} {x2 : Int32} {r : ps_G} (h : fX6_lineTo g x0 x1 x2 = some r) (hk : Q (.inl none) r) : ps_Ok mX6_lineTo d [.ref x0, .int x1, .int x2] g Q := by
  unfold fX6_lineTo at h
  refine sX6_lineTo_0 ?_
  replace h := q_be h
  obtain ⟨v1, hv, h⟩ := h
  replace hv := q_fI_e hv
  obtain ⟨_, cv1, dv1⟩ := hv
  refine ⟨⟨some _, rfl⟩, _, _, cv1, dv1, ?_⟩
  refine And.intro (fun hc2 => ?_) (fun hc2 => ?_)
  · replace h := q_ifp (hc2) h
    exact ps_weak (pjX6_lineTo_66 h hk) ⟨rfl, rfl, rfl, trivial⟩
  · replace h := q_ifn (hc2) h
    replace h := q_be h
    obtain ⟨v6, hv, h⟩ := h
    replace hv := q_fR_e hv
    obtain ⟨_, cv6, dv6⟩ := hv
    replace h := q_be h
    obtain ⟨a7, ea7, h⟩ := h
    subst ea7
    replace h := q_be h
    obtain ⟨v8, hv, h⟩ := h
    replace hv := q_fI_e hv
    obtain ⟨_, cv8, dv8⟩ := hv
    replace h := q_be h
    obtain ⟨v9, hv, h⟩ := h
    replace hv := q_fI_e hv
    obtain ⟨_, cv9, dv9⟩ := hv
    replace h := q_be h
    obtain ⟨g10, hv, h⟩ := h
    replace hv := q_wI_e hv
    obtain ⟨_, _, cg10, pg10, ig10, yg10⟩ := hv
    replace h := q_be h
    obtain ⟨v11, hv, h⟩ := h
    replace hv := q_fR_e hv
    obtain ⟨_, cv11, dv11⟩ := hv
    replace h := q_be h
    obtain ⟨a12, ea12, h⟩ := h
    subst ea12
    replace h := q_be h
    obtain ⟨v13, hv, h⟩ := h
    replace hv := q_fI_e hv
    obtain ⟨_, cv13, dv13⟩ := hv
    replace h := q_be h
    obtain ⟨v14, hv, h⟩ := h
    replace hv := q_fI_e hv
    obtain ⟨_, cv14, dv14⟩ := hv
    replace h := q_be h
    obtain ⟨g15, hv, h⟩ := h
    replace hv := q_wI_e hv
    obtain ⟨_, _, cg15, pg15, ig15, yg15⟩ := hv
    refine ⟨⟨some _, rfl⟩, _, _, cv6, dv6, ⟨some _, rfl⟩, _, _, cv8, dv8, ⟨some _, rfl⟩, _, _, cv9, dv9, _, _, cg10, pg10, ig10, _, yg10, ⟨some _, rfl⟩, _, _, cv11, dv11, ⟨some _, rfl⟩, _, _, cv13, dv13, ⟨some _, rfl⟩, _, _, cv14, dv14, _, _, cg15, pg15, ig15, _, yg15, ?_⟩
    replace h := q_be h
    obtain ⟨v16, hv, h⟩ := h
    replace hv := q_fR_e hv
    obtain ⟨_, cv16, dv16⟩ := hv
    replace h := q_be h
    obtain ⟨a17, ea17, h⟩ := h
    subst ea17
    replace h := q_be h
    obtain ⟨v18, hv, h⟩ := h
    replace hv := q_fI_e hv
    obtain ⟨_, cv18, dv18⟩ := hv
    replace h := q_be h
    obtain ⟨g19, hv, h⟩ := h
    replace hv := q_wI_e hv
    obtain ⟨_, _, cg19, pg19, ig19, yg19⟩ := hv
    replace h := q_be h
    obtain ⟨v20, hv, h⟩ := h
    replace hv := q_fR_e hv
    obtain ⟨_, cv20, dv20⟩ := hv
    replace h := q_be h
    obtain ⟨a21, ea21, h⟩ := h
    subst ea21
    replace h := q_be h
    obtain ⟨v22, hv, h⟩ := h
    replace hv := q_fI_e hv
    obtain ⟨_, cv22, dv22⟩ := hv
    replace h := q_be h
    obtain ⟨g23, hv, h⟩ := h
    replace hv := q_wI_e hv
    obtain ⟨_, _, cg23, pg23, ig23, yg23⟩ := hv
    replace h := q_be h
    obtain ⟨v24, hv, h⟩ := h
    replace hv := q_fI_e hv
    obtain ⟨_, cv24, dv24⟩ := hv
    replace h := q_be h
    obtain ⟨g25, hv, h⟩ := h
    replace hv := q_sI_e hv
    obtain ⟨_, cg25, dg25, yg25⟩ := hv
    refine ⟨⟨some _, rfl⟩, _, _, cv16, dv16, ⟨some _, rfl⟩, _, _, cv18, dv18, _, _, cg19, pg19, ig19, _, yg19, ⟨some _, rfl⟩, _, _, cv20, dv20, ⟨some _, rfl⟩, _, _, cv22, dv22, _, _, cg23, pg23, ig23, _, yg23, ⟨some _, rfl⟩, rfl, _, _, cv24, dv24, _, cg25, dg25, rfl, rfl, _, yg25, ?_⟩
    exact ps_weak (pjX6_lineTo_66 h hk) ⟨rfl, rfl, rfl, trivial⟩
noncomputable def bX6_curveTo_15 (x0 : Nat) (x1 : Int32) (x2 : Int32) (x3 : Int32) (x4 : Int32) (x5 : Int32) (x6 : Int32) (x7 : Int32) (g : ps_G) : Option ((Int32 × ps_G) ⊕ (ps_G)) := if (8 : Int32) < x7 then (some (.inr g)) else (Option.bind (q_ob 6 g x0) fun u5 => Option.bind (fX6_lineTo g x0 (q_shr ((((x5 * ((8 : Int32) - x7)) * ((8 : Int32) - x7)) + ((((2 : Int32) * x1) * x7) * ((8 : Int32) - x7))) + ((x3 * x7) * x7)) (6 : Int32)) (q_shr ((((x6 * ((8 : Int32) - x7)) * ((8 : Int32) - x7)) + ((((2 : Int32) * x2) * x7) * ((8 : Int32) - x7))) + ((x4 * x7) * x7)) (6 : Int32))) fun v6 => some (.inl (x7 + (1 : Int32), v6)))
theorem pbX6_curveTo_15 {d : Nat} {Q : ps_Rs → ps_G → Prop}  {x0 : Nat} {x1 : Int32} {x2 : Int32} {x3 : Int32} {x4 : Int32} {x5 : Int32} {x6 : Int32} {x7 : Int32} {g : ps_G} {x : (Int32 × ps_G) ⊕ (ps_G)} (h : bX6_curveTo_15 x0 x1 x2 x3 x4 x5 x6 x7 g = some x) (hh : ∀ s' : Int32 × ps_G, x = .inl s' → ps_At mX6_curveTo (d + 1) 15 [(0, .ref x0), (1, .int x1), (2, .int x2), (3, .int x3), (4, .int x4), (5, .int x5), (6, .int x6), (7, .int s'.1)] [] s'.2 Q) (he : ∀ r' : ps_G, x = .inr r' → ps_At mX6_curveTo (d + 1) 98 [] [] r' Q) : ps_At mX6_curveTo (d + 1) 15 [(0, .ref x0), (1, .int x1), (2, .int x2), (3, .int x3), (4, .int x4), (5, .int x5), (6, .int x6), (7, .int x7)] [] g Q := by
  unfold bX6_curveTo_15 at h
  refine sX6_curveTo_15 ?_
  refine And.intro (fun hc3 => ?_) (fun hc3 => ?_)
  · replace h := q_ifp (hc3) h
    exact ps_weak (he g (Option.some.inj h).symm) trivial
  · replace h := q_ifn (hc3) h
    replace h := q_be h
    obtain ⟨u5, hv, h⟩ := h
    replace hv := q_ob_e hv
    obtain ⟨_, cu5⟩ := hv
    replace h := q_be h
    obtain ⟨v6, hv, h⟩ := h
    refine ⟨by decide, ⟨some _, rfl⟩, ⟨_, cu5⟩, ?_⟩
    refine rX6_lineTo hv ?_
    refine ⟨by decide, ?_⟩
    exact ps_weak (hh (x7 + (1 : Int32), v6) (Option.some.inj h).symm) ⟨rfl, rfl, rfl, rfl, rfl, rfl, rfl, rfl, trivial⟩
noncomputable def fX6_curveTo (g : ps_G) (x0 : Nat) (x1 : Int32) (x2 : Int32) (x3 : Int32) (x4 : Int32) : Option (ps_G) := Option.bind (q_fI 6 11 g x0) fun v1 => Option.bind (q_fI 6 12 g x0) fun v2 => Option.bind (q_lp (fun s => bX6_curveTo_15 x0 x1 x2 x3 x4 v1 v2 s.1 s.2) ((1 : Int32), g)) fun s9 => some s9
theorem rX6_curveTo {d : Nat} {Q : ps_Rs → ps_G → Prop} {g : ps_G} {x0 : Nat} {x1 : Int32} {x2 : Int32} {x3 : Int32} {x4 : Int32} {r : ps_G} (h : fX6_curveTo g x0 x1 x2 x3 x4 = some r) (hk : Q (.inl none) r) : ps_Ok mX6_curveTo (d + 1) [.ref x0, .int x1, .int x2, .int x3, .int x4] g Q := by
  unfold fX6_curveTo at h
  refine sX6_curveTo_0 ?_
  replace h := q_be h
  obtain ⟨v1, hv, h⟩ := h
  replace hv := q_fI_e hv
  obtain ⟨_, cv1, dv1⟩ := hv
  replace h := q_be h
  obtain ⟨v2, hv, h⟩ := h
  replace hv := q_fI_e hv
  obtain ⟨_, cv2, dv2⟩ := hv
  refine ⟨⟨some _, rfl⟩, _, _, cv1, dv1, by decide, ⟨some _, rfl⟩, _, _, cv2, dv2, by decide, by decide, ?_⟩
  replace h := q_be h
  obtain ⟨s9, hl, h⟩ := h
  refine ps_weak (q_lp_ok hl (fun s => ps_At mX6_curveTo (d + 1) 15 [(0, .ref x0), (1, .int x1), (2, .int x2), (3, .int x3), (4, .int x4), (5, .int v1), (6, .int v2), (7, .int s.1)] [] s.2 Q) (fun r => ps_At mX6_curveTo (d + 1) 98 [] [] r Q) (fun s x hb hh he => pbX6_curveTo_15 hb hh he) ?_) ⟨rfl, rfl, rfl, rfl, rfl, rfl, rfl, rfl, trivial⟩
  refine (?_ : ps_At mX6_curveTo (d + 1) 98 [] [] s9 Q)
  refine sX6_curveTo_98 ?_
  cases h
  exact ⟨rfl, rfl, hk⟩
noncomputable def jX6_trace_203_45 (g : ps_G) (x0 : Nat) (x2 : Int32) (x3 : Int32) (x4 : Int32) (x5 : Int32) (x6 : Int32) (x7 : Int32) (x8 : Int32) : Option ((Int32 × Int32 × Int32 × ps_G) ⊕ (Int32 × Int32 × ps_G)) := some (.inl (x6, x7, x8 + (1 : Int32), g))
theorem pjX6_trace_203_45 {d : Nat} {Q : ps_Rs → ps_G → Prop} {g : ps_G} {x0 : Nat} {x2 : Int32} {x3 : Int32} {x4 : Int32} {x5 : Int32} {x6 : Int32} {x7 : Int32} {x8 : Int32} {x : (Int32 × Int32 × Int32 × ps_G) ⊕ (Int32 × Int32 × ps_G)} (h : jX6_trace_203_45 g x0 x2 x3 x4 x5 x6 x7 x8 = some x) (hh : ∀ s' : Int32 × Int32 × Int32 × ps_G, x = .inl s' → ps_At mX6_trace (d + 2) 45 [(0, .ref x0), (2, .int x2), (3, .int x3), (4, .int x4), (5, .int x5), (6, .int s'.1), (7, .int s'.2.1), (8, .int s'.2.2.1)] [] s'.2.2.2 Q) (he : ∀ r' : Int32 × Int32 × ps_G, x = .inr r' → ps_At mX6_trace (d + 2) 209 [(0, .ref x0), (5, .int x5), (6, .int r'.1), (7, .int r'.2.1)] [] r'.2.2 Q) : ps_At mX6_trace (d + 2) 203 [(0, .ref x0), (2, .int x2), (3, .int x3), (4, .int x4), (5, .int x5), (6, .int x6), (7, .int x7), (8, .int x8)] [] g Q := by
  unfold jX6_trace_203_45 at h
  refine sX6_trace_203 ?_
  refine ⟨by decide, ?_⟩
  exact ps_weak (hh (x6, x7, x8 + (1 : Int32), g) (Option.some.inj h).symm) ⟨rfl, rfl, rfl, rfl, rfl, rfl, rfl, rfl, trivial⟩
noncomputable def jX6_trace_115_45 (g : ps_G) (x0 : Nat) (x2 : Int32) (x3 : Int32) (x4 : Int32) (x5 : Int32) (x8 : Int32) (x9 : Int32) (x10 : Int32) : Option ((Int32 × Int32 × Int32 × ps_G) ⊕ (Int32 × Int32 × ps_G)) := Option.bind (q_sI 6 11 g x0 x9) fun g42 => Option.bind (q_sI 6 12 g42 x0 x10) fun g43 => jX6_trace_203_45 g43 x0 x2 x3 x4 x5 x9 x10 x8
theorem pjX6_trace_115_45 {d : Nat} {Q : ps_Rs → ps_G → Prop} {g : ps_G} {x0 : Nat} {x2 : Int32} {x3 : Int32} {x4 : Int32} {x5 : Int32} {x8 : Int32} {x9 : Int32} {x10 : Int32} {x : (Int32 × Int32 × Int32 × ps_G) ⊕ (Int32 × Int32 × ps_G)} (h : jX6_trace_115_45 g x0 x2 x3 x4 x5 x8 x9 x10 = some x) (hh : ∀ s' : Int32 × Int32 × Int32 × ps_G, x = .inl s' → ps_At mX6_trace (d + 2) 45 [(0, .ref x0), (2, .int x2), (3, .int x3), (4, .int x4), (5, .int x5), (6, .int s'.1), (7, .int s'.2.1), (8, .int s'.2.2.1)] [] s'.2.2.2 Q) (he : ∀ r' : Int32 × Int32 × ps_G, x = .inr r' → ps_At mX6_trace (d + 2) 209 [(0, .ref x0), (5, .int x5), (6, .int r'.1), (7, .int r'.2.1)] [] r'.2.2 Q) : ps_At mX6_trace (d + 2) 115 [(0, .ref x0), (2, .int x2), (3, .int x3), (4, .int x4), (5, .int x5), (8, .int x8), (9, .int x9), (10, .int x10)] [] g Q := by
  unfold jX6_trace_115_45 at h
  refine sX6_trace_115 ?_
  replace h := q_be h
  obtain ⟨g42, hv, h⟩ := h
  replace hv := q_sI_e hv
  obtain ⟨_, cg42, dg42, yg42⟩ := hv
  replace h := q_be h
  obtain ⟨g43, hv, h⟩ := h
  replace hv := q_sI_e hv
  obtain ⟨_, cg43, dg43, yg43⟩ := hv
  refine ⟨by decide, by decide, ⟨some _, rfl⟩, _, cg42, dg42, rfl, rfl, _, yg42, ⟨some _, rfl⟩, _, cg43, dg43, rfl, rfl, _, yg43, ?_⟩
  exact ps_weak (pjX6_trace_203_45 h hh he) ⟨rfl, rfl, rfl, rfl, rfl, rfl, rfl, rfl, trivial⟩
noncomputable def bX6_trace_45 (x0 : Nat) (x2 : Int32) (x3 : Int32) (x4 : Int32) (x5 : Int32) (x6 : Int32) (x7 : Int32) (x8 : Int32) (g : ps_G) : Option ((Int32 × Int32 × Int32 × ps_G) ⊕ (Int32 × Int32 × ps_G)) := if x5 ≤ x8 then (some (.inr (x6, x7, g))) else (Option.bind (q_fR 6 2 g x0) fun v7 => Option.bind (v7) fun a8 => Option.bind (q_aI g a8 (x4 + x8)) fun v9 => Option.bind (q_fR 6 3 g x0) fun v10 => Option.bind (v10) fun a11 => Option.bind (q_aI g a11 (x4 + x8)) fun v12 => Option.bind (q_fR 6 1 g x0) fun v13 => Option.bind (v13) fun a14 => Option.bind (q_aI g a14 (x4 + x8)) fun v15 => if ¬ (x8 = 0) ∧ (¬ v15 = 0) then (if v15 = (2 : Int32) then (if x5 ≤ (x8 + (1 : Int32)) then (jX6_trace_203_45 g x0 x2 x3 x4 x5 x6 x7 x8) else (Option.bind (q_fR 6 2 g x0) fun v26 => Option.bind (v26) fun a27 => Option.bind (q_aI g a27 ((x4 + x8) + (1 : Int32))) fun v28 => Option.bind (q_fR 6 3 g x0) fun v29 => Option.bind (v29) fun a30 => Option.bind (q_aI g a30 ((x4 + x8) + (1 : Int32))) fun v31 => Option.bind (q_ob 6 g x0) fun u32 => Option.bind (fX6_curveTo g x0 (v9 + x2) (v12 + x3) (v28 + x2) (v31 + x3)) fun v33 => jX6_trace_203_45 v33 x0 x2 x3 x4 x5 x6 x7 (x8 + (1 : Int32)))) else (Option.bind (q_ob 6 g x0) fun u36 => Option.bind (fX6_lineTo g x0 (v9 + x2) (v12 + x3)) fun v37 => jX6_trace_203_45 v37 x0 x2 x3 x4 x5 x6 x7 x8)) else (if x8 ≤ 0 then (jX6_trace_115_45 g x0 x2 x3 x4 x5 x8 (v9 + x2) (v12 + x3)) else (Option.bind (q_ob 6 g x0) fun u44 => Option.bind (fX6_lineTo g x0 x6 x7) fun v45 => jX6_trace_115_45 v45 x0 x2 x3 x4 x5 x8 (v9 + x2) (v12 + x3))))
theorem pbX6_trace_45 {d : Nat} {Q : ps_Rs → ps_G → Prop}  {x0 : Nat} {x2 : Int32} {x3 : Int32} {x4 : Int32} {x5 : Int32} {x6 : Int32} {x7 : Int32} {x8 : Int32} {g : ps_G} {x : (Int32 × Int32 × Int32 × ps_G) ⊕ (Int32 × Int32 × ps_G)} (h : bX6_trace_45 x0 x2 x3 x4 x5 x6 x7 x8 g = some x) (hh : ∀ s' : Int32 × Int32 × Int32 × ps_G, x = .inl s' → ps_At mX6_trace (d + 2) 45 [(0, .ref x0), (2, .int x2), (3, .int x3), (4, .int x4), (5, .int x5), (6, .int s'.1), (7, .int s'.2.1), (8, .int s'.2.2.1)] [] s'.2.2.2 Q) (he : ∀ r' : Int32 × Int32 × ps_G, x = .inr r' → ps_At mX6_trace (d + 2) 209 [(0, .ref x0), (5, .int x5), (6, .int r'.1), (7, .int r'.2.1)] [] r'.2.2 Q) : ps_At mX6_trace (d + 2) 45 [(0, .ref x0), (2, .int x2), (3, .int x3), (4, .int x4), (5, .int x5), (6, .int x6), (7, .int x7), (8, .int x8)] [] g Q := by
  unfold bX6_trace_45 at h
  refine sX6_trace_45 ?_
  refine And.intro (fun hc5 => ?_) (fun hc5 => ?_)
  · replace h := q_ifp (hc5) h
    exact ps_weak (he (x6, x7, g) (Option.some.inj h).symm) ⟨rfl, rfl, rfl, rfl, trivial⟩
  · replace h := q_ifn (hc5) h
    replace h := q_be h
    obtain ⟨v7, hv, h⟩ := h
    replace hv := q_fR_e hv
    obtain ⟨_, cv7, dv7⟩ := hv
    replace h := q_be h
    obtain ⟨a8, ea8, h⟩ := h
    subst ea8
    replace h := q_be h
    obtain ⟨v9, hv, h⟩ := h
    replace hv := q_aI_e hv
    obtain ⟨_, _, cv9, iv9, yv9⟩ := hv
    replace h := q_be h
    obtain ⟨v10, hv, h⟩ := h
    replace hv := q_fR_e hv
    obtain ⟨_, cv10, dv10⟩ := hv
    replace h := q_be h
    obtain ⟨a11, ea11, h⟩ := h
    subst ea11
    replace h := q_be h
    obtain ⟨v12, hv, h⟩ := h
    replace hv := q_aI_e hv
    obtain ⟨_, _, cv12, iv12, yv12⟩ := hv
    replace h := q_be h
    obtain ⟨v13, hv, h⟩ := h
    replace hv := q_fR_e hv
    obtain ⟨_, cv13, dv13⟩ := hv
    replace h := q_be h
    obtain ⟨a14, ea14, h⟩ := h
    subst ea14
    replace h := q_be h
    obtain ⟨v15, hv, h⟩ := h
    replace hv := q_aI_e hv
    obtain ⟨_, _, cv15, iv15, yv15⟩ := hv
    have kF49 : (if x8 ≤ 0 then (jX6_trace_115_45 g x0 x2 x3 x4 x5 x8 (v9 + x2) (v12 + x3)) else (Option.bind (q_ob 6 g x0) fun u44 => Option.bind (fX6_lineTo g x0 x6 x7) fun v45 => jX6_trace_115_45 v45 x0 x2 x3 x4 x5 x8 (v9 + x2) (v12 + x3))) = some x → ps_At mX6_trace (d + 2) 102 [(0, .ref x0), (2, .int x2), (3, .int x3), (4, .int x4), (5, .int x5), (6, .int x6), (7, .int x7), (8, .int x8), (9, .int (v9 + x2)), (10, .int (v12 + x3))] [] g Q := fun h => by
      refine sX6_trace_102 ?_
      refine And.intro (fun hc40 => ?_) (fun hc40 => ?_)
      · replace h := q_ifp (hc40) h
        exact ps_weak (pjX6_trace_115_45 h hh he) ⟨rfl, rfl, rfl, rfl, rfl, rfl, rfl, rfl, trivial⟩
      · replace h := q_ifn (hc40) h
        replace h := q_be h
        obtain ⟨u44, hv, h⟩ := h
        replace hv := q_ob_e hv
        obtain ⟨_, cu44⟩ := hv
        replace h := q_be h
        obtain ⟨v45, hv, h⟩ := h
        refine ⟨⟨some _, rfl⟩, ⟨_, cu44⟩, ?_⟩
        refine rX6_lineTo hv ?_
        exact ps_weak (pjX6_trace_115_45 h hh he) ⟨rfl, rfl, rfl, rfl, rfl, rfl, rfl, rfl, trivial⟩
    refine ⟨⟨some _, rfl⟩, _, _, cv7, dv7, _, _, cv9, iv9, _, yv9, by decide, ⟨some _, rfl⟩, _, _, cv10, dv10, _, _, cv12, iv12, _, yv12, by decide, ⟨some _, rfl⟩, _, _, cv13, dv13, _, _, cv15, iv15, _, yv15, by decide, ?_⟩
    refine And.intro (fun hc16 => ?_) (fun hc16 => ?_)
    · exact ps_weak (kF49 (q_ifn (fun z => z.1 hc16) h)) ⟨rfl, rfl, rfl, rfl, rfl, rfl, rfl, rfl, rfl, rfl, trivial⟩
    · refine And.intro (fun hc17 => ?_) (fun hc17 => ?_)
      · replace h := q_ifp (⟨hc16, hc17⟩) h
        refine sX6_trace_138 ?_
        refine And.intro (fun hc21 => ?_) (fun hc21 => ?_)
        · replace h := q_ifp (hc21) h
          refine sX6_trace_155 ?_
          refine And.intro (fun hc24 => ?_) (fun hc24 => ?_)
          · replace h := q_ifp (hc24) h
            exact ps_weak (pjX6_trace_203_45 h hh he) ⟨rfl, rfl, rfl, rfl, rfl, rfl, rfl, rfl, trivial⟩
          · replace h := q_ifn (hc24) h
            replace h := q_be h
            obtain ⟨v26, hv, h⟩ := h
            replace hv := q_fR_e hv
            obtain ⟨_, cv26, dv26⟩ := hv
            replace h := q_be h
            obtain ⟨a27, ea27, h⟩ := h
            subst ea27
            replace h := q_be h
            obtain ⟨v28, hv, h⟩ := h
            replace hv := q_aI_e hv
            obtain ⟨_, _, cv28, iv28, yv28⟩ := hv
            replace h := q_be h
            obtain ⟨v29, hv, h⟩ := h
            replace hv := q_fR_e hv
            obtain ⟨_, cv29, dv29⟩ := hv
            replace h := q_be h
            obtain ⟨a30, ea30, h⟩ := h
            subst ea30
            replace h := q_be h
            obtain ⟨v31, hv, h⟩ := h
            replace hv := q_aI_e hv
            obtain ⟨_, _, cv31, iv31, yv31⟩ := hv
            replace h := q_be h
            obtain ⟨u32, hv, h⟩ := h
            replace hv := q_ob_e hv
            obtain ⟨_, cu32⟩ := hv
            replace h := q_be h
            obtain ⟨v33, hv, h⟩ := h
            refine ⟨⟨some _, rfl⟩, ⟨some _, rfl⟩, _, _, cv26, dv26, _, _, cv28, iv28, _, yv28, ⟨some _, rfl⟩, _, _, cv29, dv29, _, _, cv31, iv31, _, yv31, ⟨_, cu32⟩, ?_⟩
            refine rX6_curveTo hv ?_
            refine ⟨by decide, ?_⟩
            exact ps_weak (pjX6_trace_203_45 h hh he) ⟨rfl, rfl, rfl, rfl, rfl, rfl, rfl, rfl, trivial⟩
        · replace h := q_ifn (hc21) h
          replace h := q_be h
          obtain ⟨u36, hv, h⟩ := h
          replace hv := q_ob_e hv
          obtain ⟨_, cu36⟩ := hv
          replace h := q_be h
          obtain ⟨v37, hv, h⟩ := h
          refine ⟨⟨some _, rfl⟩, ⟨_, cu36⟩, ?_⟩
          refine rX6_lineTo hv ?_
          exact ps_weak (pjX6_trace_203_45 h hh he) ⟨rfl, rfl, rfl, rfl, rfl, rfl, rfl, rfl, trivial⟩
      · exact ps_weak (kF49 (q_ifn (fun z => hc17 z.2) h)) ⟨rfl, rfl, rfl, rfl, rfl, rfl, rfl, rfl, rfl, rfl, trivial⟩
noncomputable def jX6_trace_222 (g : ps_G) : Option (ps_G) := some g
theorem pjX6_trace_222 {d : Nat} {Q : ps_Rs → ps_G → Prop} {g : ps_G}  {r : ps_G} (h : jX6_trace_222 g = some r) (hk : Q (.inl none) r) : ps_At mX6_trace (d + 2) 222 [] [] g Q := by
  unfold jX6_trace_222 at h
  refine sX6_trace_222 ?_
  cases h
  exact ⟨rfl, rfl, hk⟩
noncomputable def fX6_trace (g : ps_G) (x0 : Nat) (x1 : Int32) (x2 : Int32) (x3 : Int32) : Option (ps_G) := Option.bind (q_sI 6 10 g x0 (0 : Int32)) fun g1 => Option.bind (q_fR 6 0 g1 x0) fun v2 => Option.bind (v2) fun a3 => Option.bind (q_aI g1 a3 (fX11_within x1 (0 : Int32) (7 : Int32))) fun v4 => Option.bind (q_lp (fun s => bX6_trace_45 x0 x2 x3 ((fX11_within x1 (0 : Int32) (7 : Int32)) * (40 : Int32)) (fJ9_min_7cf53 v4 (40 : Int32)) s.1 s.2.1 s.2.2.1 s.2.2.2) ((0 : Int32), (0 : Int32), (0 : Int32), g1)) fun s52 => if (fJ9_min_7cf53 v4 (40 : Int32)) ≤ 0 then (jX6_trace_222 s52.2.2) else (Option.bind (q_ob 6 s52.2.2 x0) fun u55 => Option.bind (fX6_lineTo s52.2.2 x0 s52.1 s52.2.1) fun v56 => jX6_trace_222 v56)
theorem rX6_trace {d : Nat} {Q : ps_Rs → ps_G → Prop} {g : ps_G} {x0 : Nat} {x1 : Int32} {x2 : Int32} {x3 : Int32} {r : ps_G} (h : fX6_trace g x0 x1 x2 x3 = some r) (hk : Q (.inl none) r) : ps_Ok mX6_trace (d + 2) [.ref x0, .int x1, .int x2, .int x3] g Q := by
  unfold fX6_trace at h
  refine sX6_trace_0 ?_
  replace h := q_be h
  obtain ⟨g1, hv, h⟩ := h
  replace hv := q_sI_e hv
  obtain ⟨_, cg1, dg1, yg1⟩ := hv
  refine ⟨⟨some _, rfl⟩, _, cg1, dg1, rfl, rfl, _, yg1, ?_⟩
  refine rX11_within rfl ?_
  replace h := q_be h
  obtain ⟨v2, hv, h⟩ := h
  replace hv := q_fR_e hv
  obtain ⟨_, cv2, dv2⟩ := hv
  replace h := q_be h
  obtain ⟨a3, ea3, h⟩ := h
  subst ea3
  refine ⟨by decide, ⟨some _, rfl⟩, _, _, cv2, dv2, ?_⟩
  refine rX11_within rfl ?_
  replace h := q_be h
  obtain ⟨v4, hv, h⟩ := h
  replace hv := q_aI_e hv
  obtain ⟨_, _, cv4, iv4, yv4⟩ := hv
  refine ⟨_, _, cv4, iv4, _, yv4, ?_⟩
  refine rJ9_min_7cf53 rfl ?_
  refine ⟨by decide, by decide, by decide, by decide, ?_⟩
  replace h := q_be h
  obtain ⟨s52, hl, h⟩ := h
  refine ps_weak (q_lp_ok hl (fun s => ps_At mX6_trace (d + 2) 45 [(0, .ref x0), (2, .int x2), (3, .int x3), (4, .int ((fX11_within x1 (0 : Int32) (7 : Int32)) * (40 : Int32))), (5, .int (fJ9_min_7cf53 v4 (40 : Int32))), (6, .int s.1), (7, .int s.2.1), (8, .int s.2.2.1)] [] s.2.2.2 Q) (fun r => ps_At mX6_trace (d + 2) 209 [(0, .ref x0), (5, .int (fJ9_min_7cf53 v4 (40 : Int32))), (6, .int r.1), (7, .int r.2.1)] [] r.2.2 Q) (fun s x hb hh he => pbX6_trace_45 hb hh he) ?_) ⟨rfl, rfl, rfl, rfl, rfl, rfl, rfl, rfl, trivial⟩
  refine (?_ : ps_At mX6_trace (d + 2) 209 [(0, .ref x0), (5, .int (fJ9_min_7cf53 v4 (40 : Int32))), (6, .int s52.1), (7, .int s52.2.1)] [] s52.2.2 Q)
  refine sX6_trace_209 ?_
  refine And.intro (fun hc53 => ?_) (fun hc53 => ?_)
  · replace h := q_ifp (hc53) h
    exact ps_weak (pjX6_trace_222 h hk) trivial
  · replace h := q_ifn (hc53) h
    replace h := q_be h
    obtain ⟨u55, hv, h⟩ := h
    replace hv := q_ob_e hv
    obtain ⟨_, cu55⟩ := hv
    replace h := q_be h
    obtain ⟨v56, hv, h⟩ := h
    refine ⟨⟨some _, rfl⟩, ⟨_, cu55⟩, ?_⟩
    refine rX6_lineTo hv ?_
    exact ps_weak (pjX6_trace_222 h hk) trivial
noncomputable def jX6_countTurns_197_10 (g : ps_G) (x0 : Nat) (x1 : Int32) (x2 : Int32) (x3 : Int32) : Option ((Int32 × ps_G) ⊕ (ps_G)) := some (.inl (x3 + (1 : Int32), g))
theorem pjX6_countTurns_197_10 {d : Nat} {Q : ps_Rs → ps_G → Prop} {g : ps_G} {x0 : Nat} {x1 : Int32} {x2 : Int32} {x3 : Int32} {x : (Int32 × ps_G) ⊕ (ps_G)} (h : jX6_countTurns_197_10 g x0 x1 x2 x3 = some x) (hh : ∀ s' : Int32 × ps_G, x = .inl s' → ps_At mX6_countTurns (d + 1) 10 [(0, .ref x0), (1, .int x1), (2, .int x2), (3, .int s'.1)] [] s'.2 Q) (he : ∀ r' : ps_G, x = .inr r' → ps_At mX6_countTurns (d + 1) 203 [] [] r' Q) : ps_At mX6_countTurns (d + 1) 197 [(0, .ref x0), (1, .int x1), (2, .int x2), (3, .int x3)] [] g Q := by
  unfold jX6_countTurns_197_10 at h
  refine sX6_countTurns_197 ?_
  refine ⟨by decide, ?_⟩
  exact ps_weak (hh (x3 + (1 : Int32), g) (Option.some.inj h).symm) ⟨rfl, rfl, rfl, rfl, trivial⟩
noncomputable def jX6_countTurns_171_109 (g : ps_G) (x0 : Nat) (x1 : Int32) (x2 : Int32) (x3 : Int32) (x4 : Int32) (x5 : Int32) (x6 : Int32) (x7 : Int32) (x8 : Int64) (x10 : Int32) : Option ((Int32 × ps_G) ⊕ (ps_G)) := Option.bind (q_fR 6 13 g x0) fun v45 => Option.bind (v45) fun a46 => Option.bind (q_aI g a46 x10) fun v47 => Option.bind (q_wI g a46 x10 (v47 + (if x7 = 0 then (-1 : Int32) else (1 : Int32)))) fun g51 => some (.inl (x10 + (1 : Int32), g51))
theorem pjX6_countTurns_171_109 {d : Nat} {Q : ps_Rs → ps_G → Prop} {g : ps_G} {x0 : Nat} {x1 : Int32} {x2 : Int32} {x3 : Int32} {x4 : Int32} {x5 : Int32} {x6 : Int32} {x7 : Int32} {x8 : Int64} {x10 : Int32} {x : (Int32 × ps_G) ⊕ (ps_G)} (h : jX6_countTurns_171_109 g x0 x1 x2 x3 x4 x5 x6 x7 x8 x10 = some x) (hh : ∀ s' : Int32 × ps_G, x = .inl s' → ps_At mX6_countTurns (d + 1) 109 [(0, .ref x0), (1, .int x1), (2, .int x2), (3, .int x3), (4, .int x4), (5, .int x5), (6, .int x6), (7, .int x7), (8, .long x8), (10, .int s'.1)] [] s'.2 Q) (he : ∀ r' : ps_G, x = .inr r' → ps_At mX6_countTurns (d + 1) 197 [(0, .ref x0), (1, .int x1), (2, .int x2), (3, .int x3)] [] r' Q) : ps_At mX6_countTurns (d + 1) 171 [(0, .ref x0), (1, .int x1), (2, .int x2), (3, .int x3), (4, .int x4), (5, .int x5), (6, .int x6), (7, .int x7), (8, .long x8), (10, .int x10)] [] g Q := by
  unfold jX6_countTurns_171_109 at h
  refine sX6_countTurns_171 ?_
  replace h := q_be h
  obtain ⟨v45, hv, h⟩ := h
  replace hv := q_fR_e hv
  obtain ⟨_, cv45, dv45⟩ := hv
  replace h := q_be h
  obtain ⟨a46, ea46, h⟩ := h
  subst ea46
  replace h := q_be h
  obtain ⟨v47, hv, h⟩ := h
  replace hv := q_aI_e hv
  obtain ⟨_, _, cv47, iv47, yv47⟩ := hv
  have kJ50 : ∀ w49 : Int32, w49 = (if x7 = 0 then (-1 : Int32) else (1 : Int32)) → ps_At mX6_countTurns (d + 1) 189 [(0, .ref x0), (1, .int x1), (2, .int x2), (3, .int x3), (4, .int x4), (5, .int x5), (6, .int x6), (7, .int x7), (8, .long x8), (10, .int x10)] [.int w49, .int v47, .int x10, .ref a46] g Q := by
    rintro _ rfl
    refine sX6_countTurns_189 ?_
    replace h := q_be h
    obtain ⟨g51, hv, h⟩ := h
    replace hv := q_wI_e hv
    obtain ⟨_, _, cg51, pg51, ig51, yg51⟩ := hv
    refine ⟨_, _, cg51, pg51, ig51, _, yg51, by decide, ?_⟩
    exact ps_weak (hh (x10 + (1 : Int32), g51) (Option.some.inj h).symm) ⟨rfl, rfl, rfl, rfl, rfl, rfl, rfl, rfl, rfl, rfl, trivial⟩
  refine ⟨⟨some _, rfl⟩, _, _, cv45, dv45, rfl, rfl, _, _, cv47, iv47, _, yv47, ?_⟩
  refine And.intro (fun hc48 => ?_) (fun hc48 => ?_)
  · refine sX6_countTurns_188 ?_
    exact ps_weak (kJ50 _ (if_pos (hc48)).symm) ⟨rfl, rfl, rfl, rfl, rfl, rfl, rfl, rfl, rfl, rfl, trivial⟩
  · exact ps_weak (kJ50 _ (if_neg (hc48)).symm) ⟨rfl, rfl, rfl, rfl, rfl, rfl, rfl, rfl, rfl, rfl, trivial⟩
noncomputable def bX6_countTurns_109 (x0 : Nat) (x1 : Int32) (x2 : Int32) (x3 : Int32) (x4 : Int32) (x5 : Int32) (x6 : Int32) (x7 : Int32) (x8 : Int64) (x10 : Int32) (g : ps_G) : Option ((Int32 × ps_G) ⊕ (ps_G)) := if x2 ≤ x10 then (some (.inr g)) else (Option.bind (q_fR 6 13 g x0) fun v36 => Option.bind (v36) fun a37 => Option.bind (q_len g a37) fun v38 => if v38 ≤ x10 then (some (.inr g)) else (if x7 = 0 then (if 0 < (lg_cmp ((Int32.toInt64 ((((4 : Int32) * x10) + (2 : Int32)) - x4)) * (Int32.toInt64 (x6 - x5))) x8) then (jX6_countTurns_171_109 g x0 x1 x2 x3 x4 x5 x6 x7 x8 x10) else (some (.inr g))) else (if (lg_cmp ((Int32.toInt64 ((((4 : Int32) * x10) + (2 : Int32)) - x4)) * (Int32.toInt64 (x6 - x5))) x8) < 0 then (jX6_countTurns_171_109 g x0 x1 x2 x3 x4 x5 x6 x7 x8 x10) else (some (.inr g)))))
theorem pbX6_countTurns_109 {d : Nat} {Q : ps_Rs → ps_G → Prop}  {x0 : Nat} {x1 : Int32} {x2 : Int32} {x3 : Int32} {x4 : Int32} {x5 : Int32} {x6 : Int32} {x7 : Int32} {x8 : Int64} {x10 : Int32} {g : ps_G} {x : (Int32 × ps_G) ⊕ (ps_G)} (h : bX6_countTurns_109 x0 x1 x2 x3 x4 x5 x6 x7 x8 x10 g = some x) (hh : ∀ s' : Int32 × ps_G, x = .inl s' → ps_At mX6_countTurns (d + 1) 109 [(0, .ref x0), (1, .int x1), (2, .int x2), (3, .int x3), (4, .int x4), (5, .int x5), (6, .int x6), (7, .int x7), (8, .long x8), (10, .int s'.1)] [] s'.2 Q) (he : ∀ r' : ps_G, x = .inr r' → ps_At mX6_countTurns (d + 1) 197 [(0, .ref x0), (1, .int x1), (2, .int x2), (3, .int x3)] [] r' Q) : ps_At mX6_countTurns (d + 1) 109 [(0, .ref x0), (1, .int x1), (2, .int x2), (3, .int x3), (4, .int x4), (5, .int x5), (6, .int x6), (7, .int x7), (8, .long x8), (10, .int x10)] [] g Q := by
  unfold bX6_countTurns_109 at h
  refine sX6_countTurns_109 ?_
  refine And.intro (fun hc34 => ?_) (fun hc34 => ?_)
  · replace h := q_ifp (hc34) h
    exact ps_weak (he g (Option.some.inj h).symm) ⟨rfl, rfl, rfl, rfl, trivial⟩
  · replace h := q_ifn (hc34) h
    replace h := q_be h
    obtain ⟨v36, hv, h⟩ := h
    replace hv := q_fR_e hv
    obtain ⟨_, cv36, dv36⟩ := hv
    replace h := q_be h
    obtain ⟨a37, ea37, h⟩ := h
    subst ea37
    replace h := q_be h
    obtain ⟨v38, hv, h⟩ := h
    replace hv := q_len_e hv
    obtain ⟨_, _, cv38, qv38, yv38⟩ := hv
    refine ⟨⟨some _, rfl⟩, _, _, cv36, dv36, _, _, cv38, qv38, _, yv38, ?_⟩
    refine And.intro (fun hc39 => ?_) (fun hc39 => ?_)
    · replace h := q_ifp (hc39) h
      exact ps_weak (he g (Option.some.inj h).symm) ⟨rfl, rfl, rfl, rfl, trivial⟩
    · replace h := q_ifn (hc39) h
      refine ⟨by decide, ?_⟩
      refine And.intro (fun hc42 => ?_) (fun hc42 => ?_)
      · replace h := q_ifp (hc42) h
        refine sX6_countTurns_160 ?_
        refine And.intro (fun hc44 => ?_) (fun hc44 => ?_)
        · replace h := q_ifp (hc44) h
          exact ps_weak (pjX6_countTurns_171_109 h hh he) ⟨rfl, rfl, rfl, rfl, rfl, rfl, rfl, rfl, rfl, rfl, trivial⟩
        · replace h := q_ifn (hc44) h
          exact ps_weak (he g (Option.some.inj h).symm) ⟨rfl, rfl, rfl, rfl, trivial⟩
      · replace h := q_ifn (hc42) h
        refine And.intro (fun hc54 => ?_) (fun hc54 => ?_)
        · replace h := q_ifp (hc54) h
          exact ps_weak (pjX6_countTurns_171_109 h hh he) ⟨rfl, rfl, rfl, rfl, rfl, rfl, rfl, rfl, rfl, rfl, trivial⟩
        · replace h := q_ifn (hc54) h
          exact ps_weak (he g (Option.some.inj h).symm) ⟨rfl, rfl, rfl, rfl, trivial⟩
noncomputable def bX6_countTurns_10 (x0 : Nat) (x1 : Int32) (x2 : Int32) (x3 : Int32) (g : ps_G) : Option ((Int32 × ps_G) ⊕ (ps_G)) := Option.bind (q_fI 6 10 g x0) fun v4 => if (v4 ≤ x3) ∨ ((400 : Int32) ≤ x3) then (some (.inr g)) else (Option.bind (q_fR 6 6 g x0) fun v8 => Option.bind (v8) fun a9 => Option.bind (q_aI g a9 x3) fun v10 => Option.bind (q_fR 6 7 g x0) fun v11 => Option.bind (v11) fun a12 => Option.bind (q_aI g a12 x3) fun v13 => Option.bind (q_fR 6 9 g x0) fun v14 => Option.bind (v14) fun a15 => Option.bind (q_aI g a15 x3) fun v16 => if (if x1 < v13 then (0 : Int32) else (1 : Int32)) = (if x1 < v16 then (0 : Int32) else (1 : Int32)) then (jX6_countTurns_197_10 g x0 x1 x2 x3) else (Option.bind (q_fR 6 8 g x0) fun v31 => Option.bind (v31) fun a32 => Option.bind (q_aI g a32 x3) fun v33 => Option.bind (q_lp (fun s => bX6_countTurns_109 x0 x1 x2 x3 v10 v13 v16 (if v16 ≤ v13 then (0 : Int32) else (1 : Int32)) ((Int32.toInt64 (x1 - v13)) * (Int32.toInt64 (v33 - v10))) s.1 s.2) ((0 : Int32), g)) fun s63 => jX6_countTurns_197_10 s63 x0 x1 x2 x3))
theorem pbX6_countTurns_10 {d : Nat} {Q : ps_Rs → ps_G → Prop}  {x0 : Nat} {x1 : Int32} {x2 : Int32} {x3 : Int32} {g : ps_G} {x : (Int32 × ps_G) ⊕ (ps_G)} (h : bX6_countTurns_10 x0 x1 x2 x3 g = some x) (hh : ∀ s' : Int32 × ps_G, x = .inl s' → ps_At mX6_countTurns (d + 1) 10 [(0, .ref x0), (1, .int x1), (2, .int x2), (3, .int s'.1)] [] s'.2 Q) (he : ∀ r' : ps_G, x = .inr r' → ps_At mX6_countTurns (d + 1) 203 [] [] r' Q) : ps_At mX6_countTurns (d + 1) 10 [(0, .ref x0), (1, .int x1), (2, .int x2), (3, .int x3)] [] g Q := by
  unfold bX6_countTurns_10 at h
  refine sX6_countTurns_10 ?_
  replace h := q_be h
  obtain ⟨v4, hv, h⟩ := h
  replace hv := q_fI_e hv
  obtain ⟨_, cv4, dv4⟩ := hv
  have kT66 : (some (.inr g)) = some x → ps_At mX6_countTurns (d + 1) 203 [] [] g Q := fun h => by
    exact ps_weak (he g (Option.some.inj h).symm) trivial
  refine ⟨⟨some _, rfl⟩, _, _, cv4, dv4, ?_⟩
  refine And.intro (fun hc5 => ?_) (fun hc5 => ?_)
  · exact ps_weak (kT66 (q_ifp (Or.inl hc5) h)) trivial
  · refine And.intro (fun hc6 => ?_) (fun hc6 => ?_)
    · exact ps_weak (kT66 (q_ifp (Or.inr (hc6)) h)) trivial
    · replace h := q_ifn (not_or.mpr ⟨hc5, hc6⟩) h
      replace h := q_be h
      obtain ⟨v8, hv, h⟩ := h
      replace hv := q_fR_e hv
      obtain ⟨_, cv8, dv8⟩ := hv
      replace h := q_be h
      obtain ⟨a9, ea9, h⟩ := h
      subst ea9
      replace h := q_be h
      obtain ⟨v10, hv, h⟩ := h
      replace hv := q_aI_e hv
      obtain ⟨_, _, cv10, iv10, yv10⟩ := hv
      replace h := q_be h
      obtain ⟨v11, hv, h⟩ := h
      replace hv := q_fR_e hv
      obtain ⟨_, cv11, dv11⟩ := hv
      replace h := q_be h
      obtain ⟨a12, ea12, h⟩ := h
      subst ea12
      replace h := q_be h
      obtain ⟨v13, hv, h⟩ := h
      replace hv := q_aI_e hv
      obtain ⟨_, _, cv13, iv13, yv13⟩ := hv
      replace h := q_be h
      obtain ⟨v14, hv, h⟩ := h
      replace hv := q_fR_e hv
      obtain ⟨_, cv14, dv14⟩ := hv
      replace h := q_be h
      obtain ⟨a15, ea15, h⟩ := h
      subst ea15
      replace h := q_be h
      obtain ⟨v16, hv, h⟩ := h
      replace hv := q_aI_e hv
      obtain ⟨_, _, cv16, iv16, yv16⟩ := hv
      have kJ19 : ∀ w18 : Int32, w18 = (if x1 < v13 then (0 : Int32) else (1 : Int32)) → ps_At mX6_countTurns (d + 1) 60 [(0, .ref x0), (1, .int x1), (2, .int x2), (3, .int x3), (4, .int v10), (5, .int v13), (6, .int v16)] [.int w18] g Q := by
        rintro _ rfl
        refine sX6_countTurns_60 ?_
        have kJ22 : ∀ w21 : Int32, w21 = (if x1 < v16 then (0 : Int32) else (1 : Int32)) → ps_At mX6_countTurns (d + 1) 71 [(0, .ref x0), (1, .int x1), (2, .int x2), (3, .int x3), (4, .int v10), (5, .int v13), (6, .int v16)] [.int w21, .int (if x1 < v13 then (0 : Int32) else (1 : Int32))] g Q := by
          rintro _ rfl
          refine sX6_countTurns_71 ?_
          refine And.intro (fun hc23 => ?_) (fun hc23 => ?_)
          · replace h := q_ifp (hc23) h
            exact ps_weak (pjX6_countTurns_197_10 h hh he) ⟨rfl, rfl, rfl, rfl, trivial⟩
          · replace h := q_ifn (hc23) h
            have kJ30 : ∀ w29 : Int32, w29 = (if v16 ≤ v13 then (0 : Int32) else (1 : Int32)) → ps_At mX6_countTurns (d + 1) 86 [(0, .ref x0), (1, .int x1), (2, .int x2), (3, .int x3), (4, .int v10), (5, .int v13), (6, .int v16)] [.int w29] g Q := by
              rintro _ rfl
              refine sX6_countTurns_86 ?_
              replace h := q_be h
              obtain ⟨v31, hv, h⟩ := h
              replace hv := q_fR_e hv
              obtain ⟨_, cv31, dv31⟩ := hv
              replace h := q_be h
              obtain ⟨a32, ea32, h⟩ := h
              subst ea32
              replace h := q_be h
              obtain ⟨v33, hv, h⟩ := h
              replace hv := q_aI_e hv
              obtain ⟨_, _, cv33, iv33, yv33⟩ := hv
              refine ⟨by decide, ⟨some _, rfl⟩, _, _, cv31, dv31, _, _, cv33, iv33, _, yv33, by decide, by decide, ?_⟩
              replace h := q_be h
              obtain ⟨s63, hl, h⟩ := h
              refine ps_weak (q_lp_ok hl (fun s => ps_At mX6_countTurns (d + 1) 109 [(0, .ref x0), (1, .int x1), (2, .int x2), (3, .int x3), (4, .int v10), (5, .int v13), (6, .int v16), (7, .int (if v16 ≤ v13 then (0 : Int32) else (1 : Int32))), (8, .long ((Int32.toInt64 (x1 - v13)) * (Int32.toInt64 (v33 - v10)))), (10, .int s.1)] [] s.2 Q) (fun r => ps_At mX6_countTurns (d + 1) 197 [(0, .ref x0), (1, .int x1), (2, .int x2), (3, .int x3)] [] r Q) (fun s x hb hh he => pbX6_countTurns_109 hb hh he) ?_) ⟨rfl, rfl, rfl, rfl, rfl, rfl, rfl, rfl, rfl, rfl, trivial⟩
              refine (?_ : ps_At mX6_countTurns (d + 1) 197 [(0, .ref x0), (1, .int x1), (2, .int x2), (3, .int x3)] [] s63 Q)
              exact ps_weak (pjX6_countTurns_197_10 h hh he) ⟨rfl, rfl, rfl, rfl, trivial⟩
            refine And.intro (fun hc28 => ?_) (fun hc28 => ?_)
            · refine sX6_countTurns_85 ?_
              exact ps_weak (kJ30 _ (if_pos (hc28)).symm) ⟨rfl, rfl, rfl, rfl, rfl, rfl, rfl, trivial⟩
            · exact ps_weak (kJ30 _ (if_neg (hc28)).symm) ⟨rfl, rfl, rfl, rfl, rfl, rfl, rfl, trivial⟩
        refine And.intro (fun hc20 => ?_) (fun hc20 => ?_)
        · refine sX6_countTurns_70 ?_
          exact ps_weak (kJ22 _ (if_pos (hc20)).symm) ⟨rfl, rfl, rfl, rfl, rfl, rfl, rfl, trivial⟩
        · exact ps_weak (kJ22 _ (if_neg (hc20)).symm) ⟨rfl, rfl, rfl, rfl, rfl, rfl, rfl, trivial⟩
      refine ⟨⟨some _, rfl⟩, _, _, cv8, dv8, _, _, cv10, iv10, _, yv10, by decide, ⟨some _, rfl⟩, _, _, cv11, dv11, _, _, cv13, iv13, _, yv13, by decide, ⟨some _, rfl⟩, _, _, cv14, dv14, _, _, cv16, iv16, _, yv16, by decide, ?_⟩
      refine And.intro (fun hc17 => ?_) (fun hc17 => ?_)
      · refine sX6_countTurns_59 ?_
        exact ps_weak (kJ19 _ (if_pos (hc17)).symm) ⟨rfl, rfl, rfl, rfl, rfl, rfl, rfl, trivial⟩
      · exact ps_weak (kJ19 _ (if_neg (hc17)).symm) ⟨rfl, rfl, rfl, rfl, rfl, rfl, rfl, trivial⟩
noncomputable def jX6_countTurns_203 (g : ps_G) : Option (ps_G) := some g
theorem pjX6_countTurns_203 {d : Nat} {Q : ps_Rs → ps_G → Prop} {g : ps_G}  {r : ps_G} (h : jX6_countTurns_203 g = some r) (hk : Q (.inl none) r) : ps_At mX6_countTurns (d + 1) 203 [] [] g Q := by
  unfold jX6_countTurns_203 at h
  refine sX6_countTurns_203 ?_
  cases h
  exact ⟨rfl, rfl, hk⟩
noncomputable def fX6_countTurns (g : ps_G) (x0 : Nat) (x1 : Int32) (x2 : Int32) : Option (ps_G) := Option.bind (q_fR 6 13 g x0) fun v1 => Option.bind (v1) fun a2 => Option.bind (fJ7_fill_53178 g a2 (0 : Int32)) fun v3 => Option.bind (q_lp (fun s => bX6_countTurns_10 x0 x1 x2 s.1 s.2) ((0 : Int32), v3)) fun s68 => jX6_countTurns_203 s68
theorem rX6_countTurns {d : Nat} {Q : ps_Rs → ps_G → Prop} {g : ps_G} {x0 : Nat} {x1 : Int32} {x2 : Int32} {r : ps_G} (h : fX6_countTurns g x0 x1 x2 = some r) (hk : Q (.inl none) r) : ps_Ok mX6_countTurns (d + 1) [.ref x0, .int x1, .int x2] g Q := by
  unfold fX6_countTurns at h
  refine sX6_countTurns_0 ?_
  replace h := q_be h
  obtain ⟨v1, hv, h⟩ := h
  replace hv := q_fR_e hv
  obtain ⟨_, cv1, dv1⟩ := hv
  replace h := q_be h
  obtain ⟨a2, ea2, h⟩ := h
  subst ea2
  replace h := q_be h
  obtain ⟨v3, hv, h⟩ := h
  refine ⟨⟨some _, rfl⟩, _, _, cv1, dv1, ?_⟩
  refine rJ7_fill_53178 hv ?_
  refine ⟨by decide, ?_⟩
  replace h := q_be h
  obtain ⟨s68, hl, h⟩ := h
  refine ps_weak (q_lp_ok hl (fun s => ps_At mX6_countTurns (d + 1) 10 [(0, .ref x0), (1, .int x1), (2, .int x2), (3, .int s.1)] [] s.2 Q) (fun r => ps_At mX6_countTurns (d + 1) 203 [] [] r Q) (fun s x hb hh he => pbX6_countTurns_10 hb hh he) ?_) ⟨rfl, rfl, rfl, rfl, trivial⟩
  refine (?_ : ps_At mX6_countTurns (d + 1) 203 [] [] s68 Q)
  exact ps_weak (pjX6_countTurns_203 h hk) trivial
noncomputable def jX6_measure_99_42 (g : ps_G) (x0 : Nat) (x1 : Int32) (x2 : Int32) (x3 : Int32) (x4 : Int32) (x5 : Int32) (k0 : Int32) : Option ((Int32 × ps_G) ⊕ (ps_G)) := Option.bind (q_fR 6 14 g x0) fun v25 => Option.bind (v25) fun a26 => Option.bind (q_aI g a26 (((q_shr x4 (2 : Int32)) * x2) + (q_shr x5 (2 : Int32)))) fun v27 => Option.bind (q_wI g a26 (((q_shr x4 (2 : Int32)) * x2) + (q_shr x5 (2 : Int32))) (v27 + (if k0 = 0 then (0 : Int32) else (1 : Int32)))) fun g31 => some (.inl (x5 + (1 : Int32), g31))
theorem pjX6_measure_99_42 {d : Nat} {Q : ps_Rs → ps_G → Prop} {g : ps_G} {x0 : Nat} {x1 : Int32} {x2 : Int32} {x3 : Int32} {x4 : Int32} {x5 : Int32} {k0 : Int32} {x : (Int32 × ps_G) ⊕ (ps_G)} (h : jX6_measure_99_42 g x0 x1 x2 x3 x4 x5 k0 = some x) (hh : ∀ s' : Int32 × ps_G, x = .inl s' → ps_At mX6_measure (d + 2) 42 [(0, .ref x0), (1, .int x1), (2, .int x2), (3, .int x3), (4, .int x4), (5, .int s'.1)] [] s'.2 Q) (he : ∀ r' : ps_G, x = .inr r' → ps_At mX6_measure (d + 2) 136 [(0, .ref x0), (1, .int x1), (2, .int x2), (3, .int x3), (4, .int x4)] [] r' Q) : ps_At mX6_measure (d + 2) 99 [(0, .ref x0), (1, .int x1), (2, .int x2), (3, .int x3), (4, .int x4), (5, .int x5)] [.int k0] g Q := by
  unfold jX6_measure_99_42 at h
  refine sX6_measure_99 ?_
  replace h := q_be h
  obtain ⟨v25, hv, h⟩ := h
  replace hv := q_fR_e hv
  obtain ⟨_, cv25, dv25⟩ := hv
  replace h := q_be h
  obtain ⟨a26, ea26, h⟩ := h
  subst ea26
  replace h := q_be h
  obtain ⟨v27, hv, h⟩ := h
  replace hv := q_aI_e hv
  obtain ⟨_, _, cv27, iv27, yv27⟩ := hv
  have kJ30 : ∀ w29 : Int32, w29 = (if k0 = 0 then (0 : Int32) else (1 : Int32)) → ps_At mX6_measure (d + 2) 128 [(0, .ref x0), (1, .int x1), (2, .int x2), (3, .int x3), (4, .int x4), (5, .int x5)] [.int w29, .int v27, .int (((q_shr x4 (2 : Int32)) * x2) + (q_shr x5 (2 : Int32))), .ref a26] g Q := by
    rintro _ rfl
    refine sX6_measure_128 ?_
    replace h := q_be h
    obtain ⟨g31, hv, h⟩ := h
    replace hv := q_wI_e hv
    obtain ⟨_, _, cg31, pg31, ig31, yg31⟩ := hv
    refine ⟨_, _, cg31, pg31, ig31, _, yg31, by decide, ?_⟩
    exact ps_weak (hh (x5 + (1 : Int32), g31) (Option.some.inj h).symm) ⟨rfl, rfl, rfl, rfl, rfl, rfl, trivial⟩
  refine ⟨by decide, ⟨some _, rfl⟩, _, _, cv25, dv25, rfl, rfl, _, _, cv27, iv27, _, yv27, ?_⟩
  refine And.intro (fun hc28 => ?_) (fun hc28 => ?_)
  · refine sX6_measure_127 ?_
    exact ps_weak (kJ30 _ (if_pos (hc28)).symm) ⟨rfl, rfl, rfl, rfl, rfl, rfl, trivial⟩
  · exact ps_weak (kJ30 _ (if_neg (hc28)).symm) ⟨rfl, rfl, rfl, rfl, rfl, rfl, trivial⟩
noncomputable def bX6_measure_42 (x0 : Nat) (x1 : Int32) (x2 : Int32) (x3 : Int32) (x4 : Int32) (x5 : Int32) (g : ps_G) : Option ((Int32 × ps_G) ⊕ (ps_G)) := if ((4 : Int32) * x2) ≤ x5 then (some (.inr g)) else (Option.bind (q_fR 6 13 g x0) fun v11 => Option.bind (v11) fun a12 => Option.bind (q_len g a12) fun v13 => if v13 ≤ x5 then (some (.inr g)) else (if ¬ x1 = 0 then (Option.bind (q_fR 6 13 g x0) fun v19 => Option.bind (v19) fun a20 => Option.bind (q_aI g a20 x5) fun v21 => jX6_measure_99_42 g x0 x1 x2 x3 x4 x5 (if (v21 &&& (1 : Int32)) = 0 then (0 : Int32) else (1 : Int32))) else (Option.bind (q_fR 6 13 g x0) fun v32 => Option.bind (v32) fun a33 => Option.bind (q_aI g a33 x5) fun v34 => jX6_measure_99_42 g x0 x1 x2 x3 x4 x5 (if v34 = 0 then (0 : Int32) else (1 : Int32)))))
theorem pbX6_measure_42 {d : Nat} {Q : ps_Rs → ps_G → Prop}  {x0 : Nat} {x1 : Int32} {x2 : Int32} {x3 : Int32} {x4 : Int32} {x5 : Int32} {g : ps_G} {x : (Int32 × ps_G) ⊕ (ps_G)} (h : bX6_measure_42 x0 x1 x2 x3 x4 x5 g = some x) (hh : ∀ s' : Int32 × ps_G, x = .inl s' → ps_At mX6_measure (d + 2) 42 [(0, .ref x0), (1, .int x1), (2, .int x2), (3, .int x3), (4, .int x4), (5, .int s'.1)] [] s'.2 Q) (he : ∀ r' : ps_G, x = .inr r' → ps_At mX6_measure (d + 2) 136 [(0, .ref x0), (1, .int x1), (2, .int x2), (3, .int x3), (4, .int x4)] [] r' Q) : ps_At mX6_measure (d + 2) 42 [(0, .ref x0), (1, .int x1), (2, .int x2), (3, .int x3), (4, .int x4), (5, .int x5)] [] g Q := by
  unfold bX6_measure_42 at h
  refine sX6_measure_42 ?_
  refine And.intro (fun hc9 => ?_) (fun hc9 => ?_)
  · replace h := q_ifp (hc9) h
    exact ps_weak (he g (Option.some.inj h).symm) ⟨rfl, rfl, rfl, rfl, rfl, trivial⟩
  · replace h := q_ifn (hc9) h
    replace h := q_be h
    obtain ⟨v11, hv, h⟩ := h
    replace hv := q_fR_e hv
    obtain ⟨_, cv11, dv11⟩ := hv
    replace h := q_be h
    obtain ⟨a12, ea12, h⟩ := h
    subst ea12
    replace h := q_be h
    obtain ⟨v13, hv, h⟩ := h
    replace hv := q_len_e hv
    obtain ⟨_, _, cv13, qv13, yv13⟩ := hv
    refine ⟨⟨some _, rfl⟩, _, _, cv11, dv11, _, _, cv13, qv13, _, yv13, ?_⟩
    refine And.intro (fun hc14 => ?_) (fun hc14 => ?_)
    · replace h := q_ifp (hc14) h
      exact ps_weak (he g (Option.some.inj h).symm) ⟨rfl, rfl, rfl, rfl, rfl, trivial⟩
    · replace h := q_ifn (hc14) h
      refine And.intro (fun hc17 => ?_) (fun hc17 => ?_)
      · replace h := q_ifp (hc17) h
        refine sX6_measure_82 ?_
        replace h := q_be h
        obtain ⟨v19, hv, h⟩ := h
        replace hv := q_fR_e hv
        obtain ⟨_, cv19, dv19⟩ := hv
        replace h := q_be h
        obtain ⟨a20, ea20, h⟩ := h
        subst ea20
        replace h := q_be h
        obtain ⟨v21, hv, h⟩ := h
        replace hv := q_aI_e hv
        obtain ⟨_, _, cv21, iv21, yv21⟩ := hv
        have kJ24 : ∀ w23 : Int32, w23 = (if (v21 &&& (1 : Int32)) = 0 then (0 : Int32) else (1 : Int32)) → ps_At mX6_measure (d + 2) 99 [(0, .ref x0), (1, .int x1), (2, .int x2), (3, .int x3), (4, .int x4), (5, .int x5)] [.int w23] g Q := by
          rintro _ rfl
          exact ps_weak (pjX6_measure_99_42 h hh he) ⟨rfl, rfl, rfl, rfl, rfl, rfl, trivial⟩
        refine ⟨⟨some _, rfl⟩, _, _, cv19, dv19, _, _, cv21, iv21, _, yv21, ?_⟩
        refine And.intro (fun hc22 => ?_) (fun hc22 => ?_)
        · refine sX6_measure_98 ?_
          exact ps_weak (kJ24 _ (if_pos (hc22)).symm) ⟨rfl, rfl, rfl, rfl, rfl, rfl, trivial⟩
        · exact ps_weak (kJ24 _ (if_neg (hc22)).symm) ⟨rfl, rfl, rfl, rfl, rfl, rfl, trivial⟩
      · replace h := q_ifn (hc17) h
        replace h := q_be h
        obtain ⟨v32, hv, h⟩ := h
        replace hv := q_fR_e hv
        obtain ⟨_, cv32, dv32⟩ := hv
        replace h := q_be h
        obtain ⟨a33, ea33, h⟩ := h
        subst ea33
        replace h := q_be h
        obtain ⟨v34, hv, h⟩ := h
        replace hv := q_aI_e hv
        obtain ⟨_, _, cv34, iv34, yv34⟩ := hv
        have kJ37 : ∀ w36 : Int32, w36 = (if v34 = 0 then (0 : Int32) else (1 : Int32)) → ps_At mX6_measure (d + 2) 99 [(0, .ref x0), (1, .int x1), (2, .int x2), (3, .int x3), (4, .int x4), (5, .int x5)] [.int w36] g Q := by
          rintro _ rfl
          exact ps_weak (pjX6_measure_99_42 h hh he) ⟨rfl, rfl, rfl, rfl, rfl, rfl, trivial⟩
        refine ⟨⟨some _, rfl⟩, _, _, cv32, dv32, _, _, cv34, iv34, _, yv34, ?_⟩
        refine And.intro (fun hc35 => ?_) (fun hc35 => ?_)
        · refine sX6_measure_78 ?_
          exact ps_weak (kJ37 _ (if_pos (hc35)).symm) ⟨rfl, rfl, rfl, rfl, rfl, rfl, trivial⟩
        · exact ps_weak (kJ37 _ (if_neg (hc35)).symm) ⟨rfl, rfl, rfl, rfl, rfl, rfl, trivial⟩
noncomputable def jX6_measure_136_11 (g : ps_G) (x0 : Nat) (x1 : Int32) (x2 : Int32) (x3 : Int32) (x4 : Int32) : Option ((Int32 × ps_G) ⊕ (ps_G)) := some (.inl (x4 + (1 : Int32), g))
theorem pjX6_measure_136_11 {d : Nat} {Q : ps_Rs → ps_G → Prop} {g : ps_G} {x0 : Nat} {x1 : Int32} {x2 : Int32} {x3 : Int32} {x4 : Int32} {x : (Int32 × ps_G) ⊕ (ps_G)} (h : jX6_measure_136_11 g x0 x1 x2 x3 x4 = some x) (hh : ∀ s' : Int32 × ps_G, x = .inl s' → ps_At mX6_measure (d + 2) 11 [(0, .ref x0), (1, .int x1), (2, .int x2), (3, .int x3), (4, .int s'.1)] [] s'.2 Q) (he : ∀ r' : ps_G, x = .inr r' → ps_At mX6_measure (d + 2) 142 [(0, .ref x0)] [] r' Q) : ps_At mX6_measure (d + 2) 136 [(0, .ref x0), (1, .int x1), (2, .int x2), (3, .int x3), (4, .int x4)] [] g Q := by
  unfold jX6_measure_136_11 at h
  refine sX6_measure_136 ?_
  refine ⟨by decide, ?_⟩
  exact ps_weak (hh (x4 + (1 : Int32), g) (Option.some.inj h).symm) ⟨rfl, rfl, rfl, rfl, rfl, trivial⟩
noncomputable def bX6_measure_11 (x0 : Nat) (x1 : Int32) (x2 : Int32) (x3 : Int32) (x4 : Int32) (g : ps_G) : Option ((Int32 × ps_G) ⊕ (ps_G)) := if (((4 : Int32) * x3) ≤ x4) ∨ ((96 : Int32) ≤ x4) then (some (.inr g)) else (Option.bind (q_ob 6 g x0) fun u7 => Option.bind (fX6_countTurns g x0 (((4 : Int32) * x4) + (2 : Int32)) ((4 : Int32) * x2)) fun v8 => Option.bind (q_lp (fun s => bX6_measure_42 x0 x1 x2 x3 x4 s.1 s.2) ((0 : Int32), v8)) fun s44 => jX6_measure_136_11 s44 x0 x1 x2 x3 x4)
theorem pbX6_measure_11 {d : Nat} {Q : ps_Rs → ps_G → Prop}  {x0 : Nat} {x1 : Int32} {x2 : Int32} {x3 : Int32} {x4 : Int32} {g : ps_G} {x : (Int32 × ps_G) ⊕ (ps_G)} (h : bX6_measure_11 x0 x1 x2 x3 x4 g = some x) (hh : ∀ s' : Int32 × ps_G, x = .inl s' → ps_At mX6_measure (d + 2) 11 [(0, .ref x0), (1, .int x1), (2, .int x2), (3, .int x3), (4, .int s'.1)] [] s'.2 Q) (he : ∀ r' : ps_G, x = .inr r' → ps_At mX6_measure (d + 2) 142 [(0, .ref x0)] [] r' Q) : ps_At mX6_measure (d + 2) 11 [(0, .ref x0), (1, .int x1), (2, .int x2), (3, .int x3), (4, .int x4)] [] g Q := by
  unfold bX6_measure_11 at h
  refine sX6_measure_11 ?_
  have kT45 : (some (.inr g)) = some x → ps_At mX6_measure (d + 2) 142 [(0, .ref x0)] [] g Q := fun h => by
    exact ps_weak (he g (Option.some.inj h).symm) ⟨rfl, trivial⟩
  refine And.intro (fun hc4 => ?_) (fun hc4 => ?_)
  · exact ps_weak (kT45 (q_ifp (Or.inl hc4) h)) ⟨rfl, trivial⟩
  · refine And.intro (fun hc5 => ?_) (fun hc5 => ?_)
    · exact ps_weak (kT45 (q_ifp (Or.inr (hc5)) h)) ⟨rfl, trivial⟩
    · replace h := q_ifn (not_or.mpr ⟨hc4, hc5⟩) h
      replace h := q_be h
      obtain ⟨u7, hv, h⟩ := h
      replace hv := q_ob_e hv
      obtain ⟨_, cu7⟩ := hv
      replace h := q_be h
      obtain ⟨v8, hv, h⟩ := h
      refine ⟨⟨some _, rfl⟩, ⟨_, cu7⟩, ?_⟩
      refine rX6_countTurns hv ?_
      refine ⟨by decide, ?_⟩
      replace h := q_be h
      obtain ⟨s44, hl, h⟩ := h
      refine ps_weak (q_lp_ok hl (fun s => ps_At mX6_measure (d + 2) 42 [(0, .ref x0), (1, .int x1), (2, .int x2), (3, .int x3), (4, .int x4), (5, .int s.1)] [] s.2 Q) (fun r => ps_At mX6_measure (d + 2) 136 [(0, .ref x0), (1, .int x1), (2, .int x2), (3, .int x3), (4, .int x4)] [] r Q) (fun s x hb hh he => pbX6_measure_42 hb hh he) ?_) ⟨rfl, rfl, rfl, rfl, rfl, rfl, trivial⟩
      refine (?_ : ps_At mX6_measure (d + 2) 136 [(0, .ref x0), (1, .int x1), (2, .int x2), (3, .int x3), (4, .int x4)] [] s44 Q)
      exact ps_weak (pjX6_measure_136_11 h hh he) ⟨rfl, rfl, rfl, rfl, rfl, trivial⟩
noncomputable def bX6_measure_145 (x0 : Nat) (x4 : Int32) (g : ps_G) : Option ((Int32 × ps_G) ⊕ (ps_G)) := if (576 : Int32) ≤ x4 then (some (.inr g)) else (Option.bind (q_fR 6 14 g x0) fun v50 => Option.bind (v50) fun a51 => Option.bind (q_fR 6 14 g x0) fun v52 => Option.bind (v52) fun a53 => Option.bind (q_aI g a53 x4) fun v54 => Option.bind (q_wI g a51 x4 ((((255 : Int32) * v54) + (8 : Int32)) / (16 : Int32))) fun g55 => some (.inl (x4 + (1 : Int32), g55)))
theorem pbX6_measure_145 {d : Nat} {Q : ps_Rs → ps_G → Prop}  {x0 : Nat} {x4 : Int32} {g : ps_G} {x : (Int32 × ps_G) ⊕ (ps_G)} (h : bX6_measure_145 x0 x4 g = some x) (hh : ∀ s' : Int32 × ps_G, x = .inl s' → ps_At mX6_measure (d + 2) 145 [(0, .ref x0), (4, .int s'.1)] [] s'.2 Q) (he : ∀ r' : ps_G, x = .inr r' → ps_At mX6_measure (d + 2) 183 [] [] r' Q) : ps_At mX6_measure (d + 2) 145 [(0, .ref x0), (4, .int x4)] [] g Q := by
  unfold bX6_measure_145 at h
  refine sX6_measure_145 ?_
  refine And.intro (fun hc48 => ?_) (fun hc48 => ?_)
  · replace h := q_ifp (hc48) h
    exact ps_weak (he g (Option.some.inj h).symm) trivial
  · replace h := q_ifn (hc48) h
    replace h := q_be h
    obtain ⟨v50, hv, h⟩ := h
    replace hv := q_fR_e hv
    obtain ⟨_, cv50, dv50⟩ := hv
    replace h := q_be h
    obtain ⟨a51, ea51, h⟩ := h
    subst ea51
    replace h := q_be h
    obtain ⟨v52, hv, h⟩ := h
    replace hv := q_fR_e hv
    obtain ⟨_, cv52, dv52⟩ := hv
    replace h := q_be h
    obtain ⟨a53, ea53, h⟩ := h
    subst ea53
    replace h := q_be h
    obtain ⟨v54, hv, h⟩ := h
    replace hv := q_aI_e hv
    obtain ⟨_, _, cv54, iv54, yv54⟩ := hv
    replace h := q_be h
    obtain ⟨g55, hv, h⟩ := h
    replace hv := q_wI_e hv
    obtain ⟨_, _, cg55, pg55, ig55, yg55⟩ := hv
    refine ⟨⟨some _, rfl⟩, _, _, cv50, dv50, ⟨some _, rfl⟩, _, _, cv52, dv52, _, _, cv54, iv54, _, yv54, by decide, _, rfl, _, _, cg55, pg55, ig55, _, yg55, by decide, ?_⟩
    exact ps_weak (hh (x4 + (1 : Int32), g55) (Option.some.inj h).symm) ⟨rfl, rfl, trivial⟩
noncomputable def jX6_measure_142 (g : ps_G) (x0 : Nat) : Option (ps_G) := Option.bind (q_lp (fun s => bX6_measure_145 x0 s.1 s.2) ((0 : Int32), g)) fun s58 => some s58
theorem pjX6_measure_142 {d : Nat} {Q : ps_Rs → ps_G → Prop} {g : ps_G} {x0 : Nat} {r : ps_G} (h : jX6_measure_142 g x0 = some r) (hk : Q (.inl none) r) : ps_At mX6_measure (d + 2) 142 [(0, .ref x0)] [] g Q := by
  unfold jX6_measure_142 at h
  refine sX6_measure_142 ?_
  refine ⟨by decide, ?_⟩
  replace h := q_be h
  obtain ⟨s58, hl, h⟩ := h
  refine ps_weak (q_lp_ok hl (fun s => ps_At mX6_measure (d + 2) 145 [(0, .ref x0), (4, .int s.1)] [] s.2 Q) (fun r => ps_At mX6_measure (d + 2) 183 [] [] r Q) (fun s x hb hh he => pbX6_measure_145 hb hh he) ?_) ⟨rfl, rfl, trivial⟩
  refine (?_ : ps_At mX6_measure (d + 2) 183 [] [] s58 Q)
  refine sX6_measure_183 ?_
  cases h
  exact ⟨rfl, rfl, hk⟩
noncomputable def fX6_measure (g : ps_G) (x0 : Nat) (x1 : Int32) (x2 : Int32) (x3 : Int32) : Option (ps_G) := Option.bind (q_fR 6 14 g x0) fun v1 => Option.bind (v1) fun a2 => Option.bind (fJ7_fill_53178 g a2 (0 : Int32)) fun v3 => Option.bind (q_lp (fun s => bX6_measure_11 x0 x1 x2 x3 s.1 s.2) ((0 : Int32), v3)) fun s47 => jX6_measure_142 s47 x0
theorem rX6_measure {d : Nat} {Q : ps_Rs → ps_G → Prop} {g : ps_G} {x0 : Nat} {x1 : Int32} {x2 : Int32} {x3 : Int32} {r : ps_G} (h : fX6_measure g x0 x1 x2 x3 = some r) (hk : Q (.inl none) r) : ps_Ok mX6_measure (d + 2) [.ref x0, .int x1, .int x2, .int x3] g Q := by
  unfold fX6_measure at h
  refine sX6_measure_0 ?_
  replace h := q_be h
  obtain ⟨v1, hv, h⟩ := h
  replace hv := q_fR_e hv
  obtain ⟨_, cv1, dv1⟩ := hv
  replace h := q_be h
  obtain ⟨a2, ea2, h⟩ := h
  subst ea2
  replace h := q_be h
  obtain ⟨v3, hv, h⟩ := h
  refine ⟨⟨some _, rfl⟩, _, _, cv1, dv1, ?_⟩
  refine rJ7_fill_53178 hv ?_
  refine ⟨by decide, ?_⟩
  replace h := q_be h
  obtain ⟨s47, hl, h⟩ := h
  refine ps_weak (q_lp_ok hl (fun s => ps_At mX6_measure (d + 2) 11 [(0, .ref x0), (1, .int x1), (2, .int x2), (3, .int x3), (4, .int s.1)] [] s.2 Q) (fun r => ps_At mX6_measure (d + 2) 142 [(0, .ref x0)] [] r Q) (fun s x hb hh he => pbX6_measure_11 hb hh he) ?_) ⟨rfl, rfl, rfl, rfl, rfl, trivial⟩
  refine (?_ : ps_At mX6_measure (d + 2) 142 [(0, .ref x0)] [] s47 Q)
  exact ps_weak (pjX6_measure_142 h hk) ⟨rfl, trivial⟩
noncomputable def bX11_fillTraced_40 (x0 : Nat) (x1 : Nat) (x2 : Nat) (x4 : Int32) (x5 : Int32) (g : ps_G) : Option ((Int32 × ps_G) ⊕ (ps_G)) := Option.bind (q_fR 11 0 g x0) fun v15 => Option.bind (v15) fun a16 => Option.bind (q_fI 9 0 g a16) fun v17 => if v17 ≤ x5 then (some (.inr g)) else (Option.bind (q_fR 11 0 g x0) fun v20 => Option.bind (v20) fun a21 => Option.bind (q_fI 9 0 g a21) fun v22 => Option.bind (q_fR 11 9 g x0) fun v23 => Option.bind (v23) fun a24 => Option.bind (q_fR 6 14 g a24) fun v25 => Option.bind (v25) fun a26 => Option.bind (q_aI g a26 ((x4 * v22) + x5)) fun v27 => Option.bind (q_fR 11 7 g x0) fun v28 => Option.bind (v28) fun a29 => Option.bind (q_fI 4 7 g x1) fun v30 => Option.bind (q_fI 4 8 g x1) fun v31 => Option.bind (q_ob 0 g a29) fun u32 => Option.bind (fX0_at g a29 (x5 + v30) (x4 + v31)) fun v33 => Option.bind (q_aI g x2 ((x4 * v22) + x5)) fun v34 => Option.bind (q_fR 11 8 g x0) fun v35 => Option.bind (v35) fun a36 => Option.bind (q_fI 1 0 g a36) fun v37 => Option.bind (fX11_put g (0 : Int32) v34 v37 (fX11_mul v27 v33)) fun v38 => Option.bind (q_wI g x2 ((x4 * v22) + x5) v38) fun g39 => some (.inl (x5 + (1 : Int32), g39)))
theorem pbX11_fillTraced_40 {d : Nat} {Q : ps_Rs → ps_G → Prop}  {x0 : Nat} {x1 : Nat} {x2 : Nat} {x4 : Int32} {x5 : Int32} {g : ps_G} {x : (Int32 × ps_G) ⊕ (ps_G)} (h : bX11_fillTraced_40 x0 x1 x2 x4 x5 g = some x) (hh : ∀ s' : Int32 × ps_G, x = .inl s' → ps_At mX11_fillTraced (d + 4) 40 [(0, .ref x0), (1, .ref x1), (2, .ref x2), (4, .int x4), (5, .int s'.1)] [] s'.2 Q) (he : ∀ r' : ps_G, x = .inr r' → ps_At mX11_fillTraced (d + 4) 130 [(0, .ref x0), (1, .ref x1), (2, .ref x2), (4, .int x4)] [] r' Q) : ps_At mX11_fillTraced (d + 4) 40 [(0, .ref x0), (1, .ref x1), (2, .ref x2), (4, .int x4), (5, .int x5)] [] g Q := by
  unfold bX11_fillTraced_40 at h
  refine sX11_fillTraced_40 ?_
  replace h := q_be h
  obtain ⟨v15, hv, h⟩ := h
  replace hv := q_fR_e hv
  obtain ⟨_, cv15, dv15⟩ := hv
  replace h := q_be h
  obtain ⟨a16, ea16, h⟩ := h
  subst ea16
  replace h := q_be h
  obtain ⟨v17, hv, h⟩ := h
  replace hv := q_fI_e hv
  obtain ⟨_, cv17, dv17⟩ := hv
  refine ⟨⟨some _, rfl⟩, _, _, cv15, dv15, _, _, cv17, dv17, ?_⟩
  refine And.intro (fun hc18 => ?_) (fun hc18 => ?_)
  · replace h := q_ifp (hc18) h
    exact ps_weak (he g (Option.some.inj h).symm) ⟨rfl, rfl, rfl, rfl, trivial⟩
  · replace h := q_ifn (hc18) h
    replace h := q_be h
    obtain ⟨v20, hv, h⟩ := h
    replace hv := q_fR_e hv
    obtain ⟨_, cv20, dv20⟩ := hv
    replace h := q_be h
    obtain ⟨a21, ea21, h⟩ := h
    subst ea21
    replace h := q_be h
    obtain ⟨v22, hv, h⟩ := h
    replace hv := q_fI_e hv
    obtain ⟨_, cv22, dv22⟩ := hv
    replace h := q_be h
    obtain ⟨v23, hv, h⟩ := h
    replace hv := q_fR_e hv
    obtain ⟨_, cv23, dv23⟩ := hv
    replace h := q_be h
    obtain ⟨a24, ea24, h⟩ := h
    subst ea24
    replace h := q_be h
    obtain ⟨v25, hv, h⟩ := h
    replace hv := q_fR_e hv
    obtain ⟨_, cv25, dv25⟩ := hv
    replace h := q_be h
    obtain ⟨a26, ea26, h⟩ := h
    subst ea26
    replace h := q_be h
    obtain ⟨v27, hv, h⟩ := h
    replace hv := q_aI_e hv
    obtain ⟨_, _, cv27, iv27, yv27⟩ := hv
    replace h := q_be h
    obtain ⟨v28, hv, h⟩ := h
    replace hv := q_fR_e hv
    obtain ⟨_, cv28, dv28⟩ := hv
    replace h := q_be h
    obtain ⟨a29, ea29, h⟩ := h
    subst ea29
    replace h := q_be h
    obtain ⟨v30, hv, h⟩ := h
    replace hv := q_fI_e hv
    obtain ⟨_, cv30, dv30⟩ := hv
    replace h := q_be h
    obtain ⟨v31, hv, h⟩ := h
    replace hv := q_fI_e hv
    obtain ⟨_, cv31, dv31⟩ := hv
    replace h := q_be h
    obtain ⟨u32, hv, h⟩ := h
    replace hv := q_ob_e hv
    obtain ⟨_, cu32⟩ := hv
    replace h := q_be h
    obtain ⟨v33, hv, h⟩ := h
    refine ⟨⟨some _, rfl⟩, _, _, cv20, dv20, _, _, cv22, dv22, by decide, ⟨some _, rfl⟩, _, _, cv23, dv23, _, _, cv25, dv25, _, _, cv27, iv27, _, yv27, ⟨some _, rfl⟩, _, _, cv28, dv28, ⟨some _, rfl⟩, _, _, cv30, dv30, ⟨some _, rfl⟩, _, _, cv31, dv31, ⟨_, cu32⟩, ?_⟩
    refine rX0_at hv ?_
    refine rX11_mul rfl ?_
    replace h := q_be h
    obtain ⟨v34, hv, h⟩ := h
    replace hv := q_aI_e hv
    obtain ⟨_, _, cv34, iv34, yv34⟩ := hv
    replace h := q_be h
    obtain ⟨v35, hv, h⟩ := h
    replace hv := q_fR_e hv
    obtain ⟨_, cv35, dv35⟩ := hv
    replace h := q_be h
    obtain ⟨a36, ea36, h⟩ := h
    subst ea36
    replace h := q_be h
    obtain ⟨v37, hv, h⟩ := h
    replace hv := q_fI_e hv
    obtain ⟨_, cv37, dv37⟩ := hv
    replace h := q_be h
    obtain ⟨v38, hv, h⟩ := h
    refine ⟨by decide, ⟨some _, rfl⟩, ⟨some _, rfl⟩, _, _, cv34, iv34, _, yv34, ⟨some _, rfl⟩, _, _, cv35, dv35, _, _, cv37, dv37, ?_⟩
    refine rX11_put hv ?_
    replace h := q_be h
    obtain ⟨g39, hv, h⟩ := h
    replace hv := q_wI_e hv
    obtain ⟨_, _, cg39, pg39, ig39, yg39⟩ := hv
    refine ⟨_, _, cg39, pg39, ig39, _, yg39, by decide, ?_⟩
    exact ps_weak (hh (x5 + (1 : Int32), g39) (Option.some.inj h).symm) ⟨rfl, rfl, rfl, rfl, rfl, trivial⟩
noncomputable def bX11_fillTraced_25 (x0 : Nat) (x1 : Nat) (x2 : Nat) (x4 : Int32) (g : ps_G) : Option ((Int32 × ps_G) ⊕ (ps_G)) := Option.bind (q_fR 11 0 g x0) fun v11 => Option.bind (v11) fun a12 => Option.bind (q_fI 9 1 g a12) fun v13 => if v13 ≤ x4 then (some (.inr g)) else (Option.bind (q_lp (fun s => bX11_fillTraced_40 x0 x1 x2 x4 s.1 s.2) ((0 : Int32), g)) fun s42 => some (.inl (x4 + (1 : Int32), s42)))
theorem pbX11_fillTraced_25 {d : Nat} {Q : ps_Rs → ps_G → Prop}  {x0 : Nat} {x1 : Nat} {x2 : Nat} {x4 : Int32} {g : ps_G} {x : (Int32 × ps_G) ⊕ (ps_G)} (h : bX11_fillTraced_25 x0 x1 x2 x4 g = some x) (hh : ∀ s' : Int32 × ps_G, x = .inl s' → ps_At mX11_fillTraced (d + 4) 25 [(0, .ref x0), (1, .ref x1), (2, .ref x2), (4, .int s'.1)] [] s'.2 Q) (he : ∀ r' : ps_G, x = .inr r' → ps_At mX11_fillTraced (d + 4) 136 [] [] r' Q) : ps_At mX11_fillTraced (d + 4) 25 [(0, .ref x0), (1, .ref x1), (2, .ref x2), (4, .int x4)] [] g Q := by
  unfold bX11_fillTraced_25 at h
  refine sX11_fillTraced_25 ?_
  replace h := q_be h
  obtain ⟨v11, hv, h⟩ := h
  replace hv := q_fR_e hv
  obtain ⟨_, cv11, dv11⟩ := hv
  replace h := q_be h
  obtain ⟨a12, ea12, h⟩ := h
  subst ea12
  replace h := q_be h
  obtain ⟨v13, hv, h⟩ := h
  replace hv := q_fI_e hv
  obtain ⟨_, cv13, dv13⟩ := hv
  refine ⟨⟨some _, rfl⟩, _, _, cv11, dv11, _, _, cv13, dv13, ?_⟩
  refine And.intro (fun hc14 => ?_) (fun hc14 => ?_)
  · replace h := q_ifp (hc14) h
    exact ps_weak (he g (Option.some.inj h).symm) trivial
  · replace h := q_ifn (hc14) h
    refine ⟨by decide, ?_⟩
    replace h := q_be h
    obtain ⟨s42, hl, h⟩ := h
    refine ps_weak (q_lp_ok hl (fun s => ps_At mX11_fillTraced (d + 4) 40 [(0, .ref x0), (1, .ref x1), (2, .ref x2), (4, .int x4), (5, .int s.1)] [] s.2 Q) (fun r => ps_At mX11_fillTraced (d + 4) 130 [(0, .ref x0), (1, .ref x1), (2, .ref x2), (4, .int x4)] [] r Q) (fun s x hb hh he => pbX11_fillTraced_40 hb hh he) ?_) ⟨rfl, rfl, rfl, rfl, rfl, trivial⟩
    refine (?_ : ps_At mX11_fillTraced (d + 4) 130 [(0, .ref x0), (1, .ref x1), (2, .ref x2), (4, .int x4)] [] s42 Q)
    refine sX11_fillTraced_130 ?_
    refine ⟨by decide, ?_⟩
    exact ps_weak (hh (x4 + (1 : Int32), s42) (Option.some.inj h).symm) ⟨rfl, rfl, rfl, rfl, trivial⟩
noncomputable def fX11_fillTraced (g : ps_G) (x0 : Nat) (x1 : Nat) (x2 : Nat) (x3 : Int32) : Option (ps_G) := Option.bind (q_fR 11 9 g x0) fun v1 => Option.bind (v1) fun a2 => Option.bind (q_fR 11 0 g x0) fun v3 => Option.bind (v3) fun a4 => Option.bind (q_fI 9 0 g a4) fun v5 => Option.bind (q_fR 11 0 g x0) fun v6 => Option.bind (v6) fun a7 => Option.bind (q_fI 9 1 g a7) fun v8 => Option.bind (q_ob 6 g a2) fun u9 => Option.bind (fX6_measure g a2 x3 v5 v8) fun v10 => Option.bind (q_lp (fun s => bX11_fillTraced_25 x0 x1 x2 s.1 s.2) ((0 : Int32), v10)) fun s45 => some s45
theorem rX11_fillTraced {d : Nat} {Q : ps_Rs → ps_G → Prop} {g : ps_G} {x0 : Nat} {x1 : Nat} {x2 : Nat} {x3 : Int32} {r : ps_G} (h : fX11_fillTraced g x0 x1 x2 x3 = some r) (hk : Q (.inl none) r) : ps_Ok mX11_fillTraced (d + 4) [.ref x0, .ref x1, .ref x2, .int x3] g Q := by
  unfold fX11_fillTraced at h
  refine sX11_fillTraced_0 ?_
  replace h := q_be h
  obtain ⟨v1, hv, h⟩ := h
  replace hv := q_fR_e hv
  obtain ⟨_, cv1, dv1⟩ := hv
  replace h := q_be h
  obtain ⟨a2, ea2, h⟩ := h
  subst ea2
  replace h := q_be h
  obtain ⟨v3, hv, h⟩ := h
  replace hv := q_fR_e hv
  obtain ⟨_, cv3, dv3⟩ := hv
  replace h := q_be h
  obtain ⟨a4, ea4, h⟩ := h
  subst ea4
  replace h := q_be h
  obtain ⟨v5, hv, h⟩ := h
  replace hv := q_fI_e hv
  obtain ⟨_, cv5, dv5⟩ := hv
  replace h := q_be h
  obtain ⟨v6, hv, h⟩ := h
  replace hv := q_fR_e hv
  obtain ⟨_, cv6, dv6⟩ := hv
  replace h := q_be h
  obtain ⟨a7, ea7, h⟩ := h
  subst ea7
  replace h := q_be h
  obtain ⟨v8, hv, h⟩ := h
  replace hv := q_fI_e hv
  obtain ⟨_, cv8, dv8⟩ := hv
  replace h := q_be h
  obtain ⟨u9, hv, h⟩ := h
  replace hv := q_ob_e hv
  obtain ⟨_, cu9⟩ := hv
  replace h := q_be h
  obtain ⟨v10, hv, h⟩ := h
  refine ⟨⟨some _, rfl⟩, _, _, cv1, dv1, ⟨some _, rfl⟩, _, _, cv3, dv3, _, _, cv5, dv5, ⟨some _, rfl⟩, _, _, cv6, dv6, _, _, cv8, dv8, ⟨_, cu9⟩, ?_⟩
  refine rX6_measure hv ?_
  refine ⟨by decide, ?_⟩
  replace h := q_be h
  obtain ⟨s45, hl, h⟩ := h
  refine ps_weak (q_lp_ok hl (fun s => ps_At mX11_fillTraced (d + 4) 25 [(0, .ref x0), (1, .ref x1), (2, .ref x2), (4, .int s.1)] [] s.2 Q) (fun r => ps_At mX11_fillTraced (d + 4) 136 [] [] r Q) (fun s x hb hh he => pbX11_fillTraced_25 hb hh he) ?_) ⟨rfl, rfl, rfl, rfl, trivial⟩
  refine (?_ : ps_At mX11_fillTraced (d + 4) 136 [] [] s45 Q)
  refine sX11_fillTraced_136 ?_
  cases h
  exact ⟨rfl, rfl, hk⟩
noncomputable def fX11_path (g : ps_G) (x0 : Nat) (x1 : Int32) (x2 : Int32) (x3 : Int32) : Option ((String ⊕ Int32) × ps_G) := q_tc (fX11_range g x2 (0 : Int32) (7 : Int32)) fun v1 g2 => q_tc (fX11_range g2 x3 (0 : Int32) (1 : Int32)) fun v3 g4 => Option.bind (q_ob 11 g4 x0) fun u5 => q_tc (fX11_knownPixels g4 x0 x1) fun v6 g7 => Option.bind (v6) fun a8 => Option.bind (q_fR 4 15 g7 a8) fun v9 => Option.bind (v9) fun a10 => Option.bind (q_cl g7 a10) fun g11 => Option.bind (q_fR 11 9 g11 x0) fun v12 => Option.bind (v12) fun a13 => Option.bind (q_ob 6 g11 a13) fun u14 => Option.bind (fX6_trace g11 a13 x2 (0 : Int32) (0 : Int32)) fun v15 => Option.bind (q_ob 11 v15 x0) fun u16 => Option.bind (fX11_fillTraced v15 x0 a8 g7.1 x3) fun v17 => Option.bind (q_ob 11 v17 x0) fun u18 => q_b2 (fX11_repaint v17 x0 a8 g7.1) fun v19 g20 => some (.inr v19, g20)
theorem rX11_path {d : Nat} {Q : ps_Rs → ps_G → Prop} {g : ps_G} {x0 : Nat} {x1 : Int32} {x2 : Int32} {x3 : Int32} {r : (String ⊕ Int32) × ps_G} (h : fX11_path g x0 x1 x2 x3 = some r) (hk : Q (q_rI r.1) r.2) : ps_Ok mX11_path (d + 8) [.ref x0, .int x1, .int x2, .int x3] g Q := by
  unfold fX11_path at h
  refine sX11_path_0 ?_
  replace h := q_tc_e h
  rcases h with ⟨E, g2, hv, rfl⟩ | ⟨v1, g2, hv, h⟩
  · exact rX11_range hv ⟨rfl, hk⟩
  refine rX11_range hv ?_
  replace h := q_tc_e h
  rcases h with ⟨E, g4, hv, rfl⟩ | ⟨v3, g4, hv, h⟩
  · exact rX11_range hv ⟨rfl, hk⟩
  refine rX11_range hv ?_
  replace h := q_be h
  obtain ⟨u5, hv, h⟩ := h
  replace hv := q_ob_e hv
  obtain ⟨_, cu5⟩ := hv
  refine ⟨⟨some _, rfl⟩, ⟨_, cu5⟩, ?_⟩
  replace h := q_tc_e h
  rcases h with ⟨E, g7, hv, rfl⟩ | ⟨v6, g7, hv, h⟩
  · exact rX11_knownPixels hv hk
  refine rX11_knownPixels hv ?_
  replace h := q_be h
  obtain ⟨a8, ea8, h⟩ := h
  subst ea8
  replace h := q_be h
  obtain ⟨v9, hv, h⟩ := h
  replace hv := q_fR_e hv
  obtain ⟨_, cv9, dv9⟩ := hv
  replace h := q_be h
  obtain ⟨a10, ea10, h⟩ := h
  subst ea10
  replace h := q_be h
  obtain ⟨g11, hv, h⟩ := h
  replace hv := q_cl_e hv
  obtain ⟨_, _, ag11, bg11, wg11, yg11⟩ := hv
  refine ⟨_, _, rfl, by decide, ⟨some _, rfl⟩, _, _, cv9, dv9, _, _, ag11, bg11, by decide, _, yg11, _, _, (by rw [← yg11]; exact if_pos rfl), wg11, ?_⟩
  refine sX11_path_31 ?_
  replace h := q_be h
  obtain ⟨v12, hv, h⟩ := h
  replace hv := q_fR_e hv
  obtain ⟨_, cv12, dv12⟩ := hv
  replace h := q_be h
  obtain ⟨a13, ea13, h⟩ := h
  subst ea13
  replace h := q_be h
  obtain ⟨u14, hv, h⟩ := h
  replace hv := q_ob_e hv
  obtain ⟨_, cu14⟩ := hv
  replace h := q_be h
  obtain ⟨v15, hv, h⟩ := h
  refine ⟨some _, _, rfl, by decide, ⟨some _, rfl⟩, _, _, cv12, dv12, ⟨_, cu14⟩, ?_⟩
  refine rX6_trace hv ?_
  replace h := q_be h
  obtain ⟨u16, hv, h⟩ := h
  replace hv := q_ob_e hv
  obtain ⟨_, cu16⟩ := hv
  replace h := q_be h
  obtain ⟨v17, hv, h⟩ := h
  refine ⟨⟨some _, rfl⟩, ⟨some _, rfl⟩, ⟨some _, rfl⟩, ⟨_, cu16⟩, ?_⟩
  refine rX11_fillTraced hv ?_
  replace h := q_be h
  obtain ⟨u18, hv, h⟩ := h
  replace hv := q_ob_e hv
  obtain ⟨_, cu18⟩ := hv
  replace h := q_b2_e h
  obtain ⟨v19, g20, hv, h⟩ := h
  refine ⟨⟨some _, rfl⟩, ⟨some _, rfl⟩, ⟨some _, rfl⟩, ⟨_, cu18⟩, ?_⟩
  refine rX11_repaint hv ?_
  cases h
  exact ⟨rfl, hk⟩
