noncomputable def fX9_init (g : ps_G) (x0 : Nat) (x1 : Int32) (x2 : Int32) : Option (ps_G) := Option.bind (q_nR 3 g (30 : Int32)) fun g1 => Option.bind (q_sR 9 2 g1 x0 (some g.1)) fun g2 => Option.bind (q_nA .int g2 (30 : Int32)) fun g3 => Option.bind (q_sR 9 3 g3 x0 (some g2.1)) fun g4 => Option.bind (q_sI 9 0 g4 x0 x1) fun g5 => Option.bind (q_sI 9 1 g5 x0 x2) fun g6 => some g6
theorem rX9_init {d : Nat} {Q : ps_Rs → ps_G → Prop} {g : ps_G} {x0 : Nat} {x1 : Int32} {x2 : Int32} {r : ps_G} (h : fX9_init g x0 x1 x2 = some r) (hk : Q (.inl none) r) : ps_Ok mX9_init (d + 1) [.ref x0, .int x1, .int x2] g Q := by
  unfold fX9_init at h
  refine sX9_init_0 ?_
  replace h := q_be h
  obtain ⟨g1, hv, h⟩ := h
  replace hv := q_nR_e hv
  obtain ⟨ag1, bg1, yg1⟩ := hv
  replace h := q_be h
  obtain ⟨g2, hv, h⟩ := h
  replace hv := q_sR_e hv
  obtain ⟨_, cg2, dg2, yg2⟩ := hv
  replace h := q_be h
  obtain ⟨g3, hv, h⟩ := h
  replace hv := q_nA_e hv
  obtain ⟨ag3, bg3, yg3⟩ := hv
  replace h := q_be h
  obtain ⟨g4, hv, h⟩ := h
  replace hv := q_sR_e hv
  obtain ⟨_, cg4, dg4, yg4⟩ := hv
  replace h := q_be h
  obtain ⟨g5, hv, h⟩ := h
  replace hv := q_sI_e hv
  obtain ⟨_, cg5, dg5, yg5⟩ := hv
  replace h := q_be h
  obtain ⟨g6, hv, h⟩ := h
  replace hv := q_sI_e hv
  obtain ⟨_, cg6, dg6, yg6⟩ := hv
  refine ⟨⟨some _, rfl⟩, by decide, ⟨some _, rfl⟩, ag1, bg1, _, yg1, _, cg2, dg2, rfl, rfl, _, yg2, ⟨some _, rfl⟩, Or.inl rfl, ag3, bg3, _, yg3, _, cg4, dg4, rfl, rfl, _, yg4, ⟨some _, rfl⟩, _, cg5, dg5, rfl, rfl, _, yg5, ⟨some _, rfl⟩, _, cg6, dg6, rfl, rfl, _, yg6, ?_⟩
  cases h
  exact ⟨rfl, rfl, hk⟩
noncomputable def fX5_init (g : ps_G) (x0 : Nat) : Option (ps_G) := Option.bind (q_nA .int g (256 : Int32)) fun g1 => Option.bind (q_sR 5 0 g1 x0 (some g.1)) fun g2 => Option.bind (q_nA .int g2 (256 : Int32)) fun g3 => Option.bind (q_sR 5 1 g3 x0 (some g2.1)) fun g4 => Option.bind (q_nA .int g4 (32 : Int32)) fun g5 => Option.bind (q_sR 5 2 g5 x0 (some g4.1)) fun g6 => Option.bind (q_nA .int g6 (9 : Int32)) fun g7 => Option.bind (q_sR 5 3 g7 x0 (some g6.1)) fun g8 => Option.bind (q_sI 5 4 g8 x0 (1 : Int32)) fun g9 => Option.bind (q_nA .int g9 (9 : Int32)) fun g10 => Option.bind (q_sR 5 6 g10 x0 (some g9.1)) fun g11 => Option.bind (q_sR 5 7 g11 x0 (some 0)) fun g12 => Option.bind (q_sI 5 8 g12 x0 (1 : Int32)) fun g13 => Option.bind (q_sI 5 9 g13 x0 (1 : Int32)) fun g14 => Option.bind (q_fR 5 3 g14 x0) fun v15 => Option.bind (v15) fun a16 => Option.bind (q_wI g14 a16 (4 : Int32) (1 : Int32)) fun g17 => some g17
theorem rX5_init {d : Nat} {Q : ps_Rs → ps_G → Prop} {g : ps_G} {x0 : Nat} {r : ps_G} (h : fX5_init g x0 = some r) (hk : Q (.inl none) r) : ps_Ok mX5_init (d + 1) [.ref x0] g Q := by
  unfold fX5_init at h
  refine sX5_init_0 ?_
  replace h := q_be h
  obtain ⟨g1, hv, h⟩ := h
  replace hv := q_nA_e hv
  obtain ⟨ag1, bg1, yg1⟩ := hv
  replace h := q_be h
  obtain ⟨g2, hv, h⟩ := h
  replace hv := q_sR_e hv
  obtain ⟨_, cg2, dg2, yg2⟩ := hv
  replace h := q_be h
  obtain ⟨g3, hv, h⟩ := h
  replace hv := q_nA_e hv
  obtain ⟨ag3, bg3, yg3⟩ := hv
  replace h := q_be h
  obtain ⟨g4, hv, h⟩ := h
  replace hv := q_sR_e hv
  obtain ⟨_, cg4, dg4, yg4⟩ := hv
  replace h := q_be h
  obtain ⟨g5, hv, h⟩ := h
  replace hv := q_nA_e hv
  obtain ⟨ag5, bg5, yg5⟩ := hv
  replace h := q_be h
  obtain ⟨g6, hv, h⟩ := h
  replace hv := q_sR_e hv
  obtain ⟨_, cg6, dg6, yg6⟩ := hv
  refine ⟨⟨some _, rfl⟩, by decide, ⟨some _, rfl⟩, Or.inl rfl, ag1, bg1, _, yg1, _, cg2, dg2, rfl, rfl, _, yg2, ⟨some _, rfl⟩, Or.inl rfl, ag3, bg3, _, yg3, _, cg4, dg4, rfl, rfl, _, yg4, ⟨some _, rfl⟩, Or.inl rfl, ag5, bg5, _, yg5, _, cg6, dg6, rfl, rfl, _, yg6, ?_⟩
  replace h := q_be h
  obtain ⟨g7, hv, h⟩ := h
  replace hv := q_nA_e hv
  obtain ⟨ag7, bg7, yg7⟩ := hv
  replace h := q_be h
  obtain ⟨g8, hv, h⟩ := h
  replace hv := q_sR_e hv
  obtain ⟨_, cg8, dg8, yg8⟩ := hv
  replace h := q_be h
  obtain ⟨g9, hv, h⟩ := h
  replace hv := q_sI_e hv
  obtain ⟨_, cg9, dg9, yg9⟩ := hv
  replace h := q_be h
  obtain ⟨g10, hv, h⟩ := h
  replace hv := q_nA_e hv
  obtain ⟨ag10, bg10, yg10⟩ := hv
  replace h := q_be h
  obtain ⟨g11, hv, h⟩ := h
  replace hv := q_sR_e hv
  obtain ⟨_, cg11, dg11, yg11⟩ := hv
  replace h := q_be h
  obtain ⟨g12, hv, h⟩ := h
  replace hv := q_sR_e hv
  obtain ⟨_, cg12, dg12, yg12⟩ := hv
  refine ⟨⟨some _, rfl⟩, Or.inl rfl, ag7, bg7, _, yg7, _, cg8, dg8, rfl, rfl, _, yg8, ⟨some _, rfl⟩, _, cg9, dg9, rfl, rfl, _, yg9, ⟨some _, rfl⟩, Or.inl rfl, ag10, bg10, _, yg10, _, cg11, dg11, rfl, rfl, _, yg11, ⟨some _, rfl⟩, _, cg12, dg12, rfl, rfl, _, yg12, ?_⟩
  replace h := q_be h
  obtain ⟨g13, hv, h⟩ := h
  replace hv := q_sI_e hv
  obtain ⟨_, cg13, dg13, yg13⟩ := hv
  replace h := q_be h
  obtain ⟨g14, hv, h⟩ := h
  replace hv := q_sI_e hv
  obtain ⟨_, cg14, dg14, yg14⟩ := hv
  replace h := q_be h
  obtain ⟨v15, hv, h⟩ := h
  replace hv := q_fR_e hv
  obtain ⟨_, cv15, dv15⟩ := hv
  replace h := q_be h
  obtain ⟨a16, ea16, h⟩ := h
  subst ea16
  replace h := q_be h
  obtain ⟨g17, hv, h⟩ := h
  replace hv := q_wI_e hv
  obtain ⟨_, _, cg17, pg17, ig17, yg17⟩ := hv
  cases h
  exact ⟨⟨some _, rfl⟩, _, cg13, dg13, rfl, rfl, _, yg13, ⟨some _, rfl⟩, _, cg14, dg14, rfl, rfl, _, yg14, ⟨some _, rfl⟩, _, _, cv15, dv15, _, _, cg17, pg17, ig17, _, yg17, rfl, rfl, hk⟩
noncomputable def fX10_init (g : ps_G) (x0 : Nat) (x1 : Nat) : Option (ps_G) := Option.bind (q_gr g (31 : Int32) (576 : Int32)) fun g1 => Option.bind (q_sR 10 1 g1 x0 (some g.1)) fun g2 => Option.bind (q_gr g2 (31 : Int32) (576 : Int32)) fun g3 => Option.bind (q_sR 10 2 g3 x0 (some g2.1)) fun g4 => Option.bind (q_nA .int g4 (576 : Int32)) fun g5 => Option.bind (q_sR 10 3 g5 x0 (some g4.1)) fun g6 => Option.bind (q_nA .int g6 (576 : Int32)) fun g7 => Option.bind (q_sR 10 4 g7 x0 (some g6.1)) fun g8 => Option.bind (q_nA .int g8 (576 : Int32)) fun g9 => Option.bind (q_sR 10 6 g9 x0 (some g8.1)) fun g10 => Option.bind (q_nA .boolean g10 (9 : Int32)) fun g11 => Option.bind (q_sR 10 7 g11 x0 (some g10.1)) fun g12 => Option.bind (q_sR 10 0 g12 x0 (some x1)) fun g13 => some g13
theorem rX10_init {d : Nat} {Q : ps_Rs → ps_G → Prop} {g : ps_G} {x0 : Nat} {x1 : Nat} {r : ps_G} (h : fX10_init g x0 x1 = some r) (hk : Q (.inl none) r) : ps_Ok mX10_init (d + 1) [.ref x0, .ref x1] g Q := by
  unfold fX10_init at h
  refine sX10_init_0 ?_
  replace h := q_be h
  obtain ⟨g1, hv, h⟩ := h
  replace hv := q_gr_e hv
  obtain ⟨ag1, bg1, cg1, dg1, yg1⟩ := hv
  replace h := q_be h
  obtain ⟨g2, hv, h⟩ := h
  replace hv := q_sR_e hv
  obtain ⟨_, cg2, dg2, yg2⟩ := hv
  replace h := q_be h
  obtain ⟨g3, hv, h⟩ := h
  replace hv := q_gr_e hv
  obtain ⟨ag3, bg3, cg3, dg3, yg3⟩ := hv
  replace h := q_be h
  obtain ⟨g4, hv, h⟩ := h
  replace hv := q_sR_e hv
  obtain ⟨_, cg4, dg4, yg4⟩ := hv
  replace h := q_be h
  obtain ⟨g5, hv, h⟩ := h
  replace hv := q_nA_e hv
  obtain ⟨ag5, bg5, yg5⟩ := hv
  replace h := q_be h
  obtain ⟨g6, hv, h⟩ := h
  replace hv := q_sR_e hv
  obtain ⟨_, cg6, dg6, yg6⟩ := hv
  refine ⟨⟨some _, rfl⟩, by decide, ⟨some _, rfl⟩, rfl, ag1, bg1, cg1, dg1, _, yg1, _, cg2, dg2, rfl, rfl, _, yg2, ⟨some _, rfl⟩, rfl, ag3, bg3, cg3, dg3, _, yg3, _, cg4, dg4, rfl, rfl, _, yg4, ⟨some _, rfl⟩, Or.inl rfl, ag5, bg5, _, yg5, _, cg6, dg6, rfl, rfl, _, yg6, ?_⟩
  replace h := q_be h
  obtain ⟨g7, hv, h⟩ := h
  replace hv := q_nA_e hv
  obtain ⟨ag7, bg7, yg7⟩ := hv
  replace h := q_be h
  obtain ⟨g8, hv, h⟩ := h
  replace hv := q_sR_e hv
  obtain ⟨_, cg8, dg8, yg8⟩ := hv
  replace h := q_be h
  obtain ⟨g9, hv, h⟩ := h
  replace hv := q_nA_e hv
  obtain ⟨ag9, bg9, yg9⟩ := hv
  replace h := q_be h
  obtain ⟨g10, hv, h⟩ := h
  replace hv := q_sR_e hv
  obtain ⟨_, cg10, dg10, yg10⟩ := hv
  replace h := q_be h
  obtain ⟨g11, hv, h⟩ := h
  replace hv := q_nA_e hv
  obtain ⟨ag11, bg11, yg11⟩ := hv
  replace h := q_be h
  obtain ⟨g12, hv, h⟩ := h
  replace hv := q_sR_e hv
  obtain ⟨_, cg12, dg12, yg12⟩ := hv
  refine ⟨⟨some _, rfl⟩, Or.inl rfl, ag7, bg7, _, yg7, _, cg8, dg8, rfl, rfl, _, yg8, ⟨some _, rfl⟩, Or.inl rfl, ag9, bg9, _, yg9, _, cg10, dg10, rfl, rfl, _, yg10, ⟨some _, rfl⟩, Or.inr (Or.inr rfl), ag11, bg11, _, yg11, _, cg12, dg12, rfl, rfl, _, yg12, ⟨some _, rfl⟩, ⟨some _, rfl⟩, ?_⟩
  replace h := q_be h
  obtain ⟨g13, hv, h⟩ := h
  replace hv := q_sR_e hv
  obtain ⟨_, cg13, dg13, yg13⟩ := hv
  cases h
  exact ⟨_, cg13, dg13, rfl, rfl, _, yg13, rfl, rfl, hk⟩
noncomputable def fX0_init (g : ps_G) (x0 : Nat) : Option (ps_G) := Option.bind (q_sI 0 0 g x0 (8 : Int32)) fun g1 => Option.bind (q_sI 0 1 g1 x0 (8 : Int32)) fun g2 => Option.bind (q_nA .int g2 (576 : Int32)) fun g3 => Option.bind (q_sR 0 2 g3 x0 (some g2.1)) fun g4 => Option.bind (q_nA .int g4 (576 : Int32)) fun g5 => Option.bind (q_sR 0 3 g5 x0 (some g4.1)) fun g6 => Option.bind (q_nA .int g6 (576 : Int32)) fun g7 => Option.bind (q_sR 0 4 g7 x0 (some g6.1)) fun g8 => Option.bind (q_fR 0 2 g8 x0) fun v9 => Option.bind (v9) fun a10 => Option.bind (fJ7_fill_53178 g8 a10 (255 : Int32)) fun v11 => some v11
theorem rX0_init {d : Nat} {Q : ps_Rs → ps_G → Prop} {g : ps_G} {x0 : Nat} {r : ps_G} (h : fX0_init g x0 = some r) (hk : Q (.inl none) r) : ps_Ok mX0_init (d + 1) [.ref x0] g Q := by
  unfold fX0_init at h
  refine sX0_init_0 ?_
  replace h := q_be h
  obtain ⟨g1, hv, h⟩ := h
  replace hv := q_sI_e hv
  obtain ⟨_, cg1, dg1, yg1⟩ := hv
  replace h := q_be h
  obtain ⟨g2, hv, h⟩ := h
  replace hv := q_sI_e hv
  obtain ⟨_, cg2, dg2, yg2⟩ := hv
  replace h := q_be h
  obtain ⟨g3, hv, h⟩ := h
  replace hv := q_nA_e hv
  obtain ⟨ag3, bg3, yg3⟩ := hv
  replace h := q_be h
  obtain ⟨g4, hv, h⟩ := h
  replace hv := q_sR_e hv
  obtain ⟨_, cg4, dg4, yg4⟩ := hv
  replace h := q_be h
  obtain ⟨g5, hv, h⟩ := h
  replace hv := q_nA_e hv
  obtain ⟨ag5, bg5, yg5⟩ := hv
  replace h := q_be h
  obtain ⟨g6, hv, h⟩ := h
  replace hv := q_sR_e hv
  obtain ⟨_, cg6, dg6, yg6⟩ := hv
  refine ⟨⟨some _, rfl⟩, by decide, ⟨some _, rfl⟩, _, cg1, dg1, rfl, rfl, _, yg1, ⟨some _, rfl⟩, _, cg2, dg2, rfl, rfl, _, yg2, ⟨some _, rfl⟩, Or.inl rfl, ag3, bg3, _, yg3, _, cg4, dg4, rfl, rfl, _, yg4, ⟨some _, rfl⟩, Or.inl rfl, ag5, bg5, _, yg5, _, cg6, dg6, rfl, rfl, _, yg6, ?_⟩
  replace h := q_be h
  obtain ⟨g7, hv, h⟩ := h
  replace hv := q_nA_e hv
  obtain ⟨ag7, bg7, yg7⟩ := hv
  replace h := q_be h
  obtain ⟨g8, hv, h⟩ := h
  replace hv := q_sR_e hv
  obtain ⟨_, cg8, dg8, yg8⟩ := hv
  replace h := q_be h
  obtain ⟨v9, hv, h⟩ := h
  replace hv := q_fR_e hv
  obtain ⟨_, cv9, dv9⟩ := hv
  replace h := q_be h
  obtain ⟨a10, ea10, h⟩ := h
  subst ea10
  replace h := q_be h
  obtain ⟨v11, hv, h⟩ := h
  refine ⟨⟨some _, rfl⟩, Or.inl rfl, ag7, bg7, _, yg7, _, cg8, dg8, rfl, rfl, _, yg8, ⟨some _, rfl⟩, _, _, cv9, dv9, ?_⟩
  refine rJ7_fill_53178 hv ?_
  cases h
  exact ⟨rfl, rfl, hk⟩
noncomputable def fX1_init (g : ps_G) (x0 : Nat) : Option (ps_G) := Option.bind (q_sI 1 0 g x0 (-16777216 : Int32)) fun g1 => Option.bind (q_sI 1 1 g1 x0 (8 : Int32)) fun g2 => Option.bind (q_sI 1 2 g2 x0 (255 : Int32)) fun g3 => Option.bind (q_sI 1 3 g3 x0 (4 : Int32)) fun g4 => Option.bind (q_sI 1 4 g4 x0 (255 : Int32)) fun g5 => Option.bind (q_sI 1 5 g5 x0 (255 : Int32)) fun g6 => Option.bind (q_nA .int g6 (20 : Int32)) fun g7 => Option.bind (q_sR 1 9 g7 x0 (some g6.1)) fun g8 => Option.bind (q_nA .int g8 (20 : Int32)) fun g9 => Option.bind (q_sR 1 10 g9 x0 (some g8.1)) fun g10 => Option.bind (q_nA .int g10 (20 : Int32)) fun g11 => Option.bind (q_sR 1 11 g11 x0 (some g10.1)) fun g12 => Option.bind (q_nA .int g12 (576 : Int32)) fun g13 => Option.bind (q_sR 1 12 g13 x0 (some g12.1)) fun g14 => some g14
theorem rX1_init {d : Nat} {Q : ps_Rs → ps_G → Prop} {g : ps_G} {x0 : Nat} {r : ps_G} (h : fX1_init g x0 = some r) (hk : Q (.inl none) r) : ps_Ok mX1_init (d + 1) [.ref x0] g Q := by
  unfold fX1_init at h
  refine sX1_init_0 ?_
  replace h := q_be h
  obtain ⟨g1, hv, h⟩ := h
  replace hv := q_sI_e hv
  obtain ⟨_, cg1, dg1, yg1⟩ := hv
  replace h := q_be h
  obtain ⟨g2, hv, h⟩ := h
  replace hv := q_sI_e hv
  obtain ⟨_, cg2, dg2, yg2⟩ := hv
  replace h := q_be h
  obtain ⟨g3, hv, h⟩ := h
  replace hv := q_sI_e hv
  obtain ⟨_, cg3, dg3, yg3⟩ := hv
  replace h := q_be h
  obtain ⟨g4, hv, h⟩ := h
  replace hv := q_sI_e hv
  obtain ⟨_, cg4, dg4, yg4⟩ := hv
  replace h := q_be h
  obtain ⟨g5, hv, h⟩ := h
  replace hv := q_sI_e hv
  obtain ⟨_, cg5, dg5, yg5⟩ := hv
  refine ⟨⟨some _, rfl⟩, by decide, ⟨some _, rfl⟩, _, cg1, dg1, rfl, rfl, _, yg1, ⟨some _, rfl⟩, _, cg2, dg2, rfl, rfl, _, yg2, ⟨some _, rfl⟩, _, cg3, dg3, rfl, rfl, _, yg3, ⟨some _, rfl⟩, _, cg4, dg4, rfl, rfl, _, yg4, ⟨some _, rfl⟩, _, cg5, dg5, rfl, rfl, _, yg5, ?_⟩
  replace h := q_be h
  obtain ⟨g6, hv, h⟩ := h
  replace hv := q_sI_e hv
  obtain ⟨_, cg6, dg6, yg6⟩ := hv
  replace h := q_be h
  obtain ⟨g7, hv, h⟩ := h
  replace hv := q_nA_e hv
  obtain ⟨ag7, bg7, yg7⟩ := hv
  replace h := q_be h
  obtain ⟨g8, hv, h⟩ := h
  replace hv := q_sR_e hv
  obtain ⟨_, cg8, dg8, yg8⟩ := hv
  replace h := q_be h
  obtain ⟨g9, hv, h⟩ := h
  replace hv := q_nA_e hv
  obtain ⟨ag9, bg9, yg9⟩ := hv
  replace h := q_be h
  obtain ⟨g10, hv, h⟩ := h
  replace hv := q_sR_e hv
  obtain ⟨_, cg10, dg10, yg10⟩ := hv
  replace h := q_be h
  obtain ⟨g11, hv, h⟩ := h
  replace hv := q_nA_e hv
  obtain ⟨ag11, bg11, yg11⟩ := hv
  replace h := q_be h
  obtain ⟨g12, hv, h⟩ := h
  replace hv := q_sR_e hv
  obtain ⟨_, cg12, dg12, yg12⟩ := hv
  refine ⟨⟨some _, rfl⟩, _, cg6, dg6, rfl, rfl, _, yg6, ⟨some _, rfl⟩, Or.inl rfl, ag7, bg7, _, yg7, _, cg8, dg8, rfl, rfl, _, yg8, ⟨some _, rfl⟩, Or.inl rfl, ag9, bg9, _, yg9, _, cg10, dg10, rfl, rfl, _, yg10, ⟨some _, rfl⟩, Or.inl rfl, ag11, bg11, _, yg11, _, cg12, dg12, rfl, rfl, _, yg12, ?_⟩
  replace h := q_be h
  obtain ⟨g13, hv, h⟩ := h
  replace hv := q_nA_e hv
  obtain ⟨ag13, bg13, yg13⟩ := hv
  replace h := q_be h
  obtain ⟨g14, hv, h⟩ := h
  replace hv := q_sR_e hv
  obtain ⟨_, cg14, dg14, yg14⟩ := hv
  cases h
  exact ⟨⟨some _, rfl⟩, Or.inl rfl, ag13, bg13, _, yg13, _, cg14, dg14, rfl, rfl, _, yg14, rfl, rfl, hk⟩
noncomputable def fX6_init (g : ps_G) (x0 : Nat) : Option (ps_G) := Option.bind (q_nA .int g (8 : Int32)) fun g1 => Option.bind (q_sR 6 0 g1 x0 (some g.1)) fun g2 => Option.bind (q_nA .int g2 (320 : Int32)) fun g3 => Option.bind (q_sR 6 1 g3 x0 (some g2.1)) fun g4 => Option.bind (q_nA .int g4 (320 : Int32)) fun g5 => Option.bind (q_sR 6 2 g5 x0 (some g4.1)) fun g6 => Option.bind (q_nA .int g6 (320 : Int32)) fun g7 => Option.bind (q_sR 6 3 g7 x0 (some g6.1)) fun g8 => Option.bind (q_nA .int g8 (256 : Int32)) fun g9 => Option.bind (q_sR 6 4 g9 x0 (some g8.1)) fun g10 => Option.bind (q_nA .int g10 (256 : Int32)) fun g11 => Option.bind (q_sR 6 5 g11 x0 (some g10.1)) fun g12 => Option.bind (q_nA .int g12 (400 : Int32)) fun g13 => Option.bind (q_sR 6 6 g13 x0 (some g12.1)) fun g14 => Option.bind (q_nA .int g14 (400 : Int32)) fun g15 => Option.bind (q_sR 6 7 g15 x0 (some g14.1)) fun g16 => Option.bind (q_nA .int g16 (400 : Int32)) fun g17 => Option.bind (q_sR 6 8 g17 x0 (some g16.1)) fun g18 => Option.bind (q_nA .int g18 (400 : Int32)) fun g19 => Option.bind (q_sR 6 9 g19 x0 (some g18.1)) fun g20 => Option.bind (q_nA .int g20 (96 : Int32)) fun g21 => Option.bind (q_sR 6 13 g21 x0 (some g20.1)) fun g22 => Option.bind (q_nA .int g22 (576 : Int32)) fun g23 => Option.bind (q_sR 6 14 g23 x0 (some g22.1)) fun g24 => Option.bind (q_fR 6 4 g24 x0) fun v25 => Option.bind (v25) fun a26 => Option.bind (fJ7_fill_53178 g24 a26 (-1 : Int32)) fun v27 => some v27
theorem rX6_init {d : Nat} {Q : ps_Rs → ps_G → Prop} {g : ps_G} {x0 : Nat} {r : ps_G} (h : fX6_init g x0 = some r) (hk : Q (.inl none) r) : ps_Ok mX6_init (d + 1) [.ref x0] g Q := by
  unfold fX6_init at h
  refine sX6_init_0 ?_
  replace h := q_be h
  obtain ⟨g1, hv, h⟩ := h
  replace hv := q_nA_e hv
  obtain ⟨ag1, bg1, yg1⟩ := hv
  replace h := q_be h
  obtain ⟨g2, hv, h⟩ := h
  replace hv := q_sR_e hv
  obtain ⟨_, cg2, dg2, yg2⟩ := hv
  replace h := q_be h
  obtain ⟨g3, hv, h⟩ := h
  replace hv := q_nA_e hv
  obtain ⟨ag3, bg3, yg3⟩ := hv
  replace h := q_be h
  obtain ⟨g4, hv, h⟩ := h
  replace hv := q_sR_e hv
  obtain ⟨_, cg4, dg4, yg4⟩ := hv
  replace h := q_be h
  obtain ⟨g5, hv, h⟩ := h
  replace hv := q_nA_e hv
  obtain ⟨ag5, bg5, yg5⟩ := hv
  replace h := q_be h
  obtain ⟨g6, hv, h⟩ := h
  replace hv := q_sR_e hv
  obtain ⟨_, cg6, dg6, yg6⟩ := hv
  refine ⟨⟨some _, rfl⟩, by decide, ⟨some _, rfl⟩, Or.inl rfl, ag1, bg1, _, yg1, _, cg2, dg2, rfl, rfl, _, yg2, ⟨some _, rfl⟩, Or.inl rfl, ag3, bg3, _, yg3, _, cg4, dg4, rfl, rfl, _, yg4, ⟨some _, rfl⟩, Or.inl rfl, ag5, bg5, _, yg5, _, cg6, dg6, rfl, rfl, _, yg6, ?_⟩
  replace h := q_be h
  obtain ⟨g7, hv, h⟩ := h
  replace hv := q_nA_e hv
  obtain ⟨ag7, bg7, yg7⟩ := hv
  replace h := q_be h
  obtain ⟨g8, hv, h⟩ := h
  replace hv := q_sR_e hv
  obtain ⟨_, cg8, dg8, yg8⟩ := hv
  replace h := q_be h
  obtain ⟨g9, hv, h⟩ := h
  replace hv := q_nA_e hv
  obtain ⟨ag9, bg9, yg9⟩ := hv
  replace h := q_be h
  obtain ⟨g10, hv, h⟩ := h
  replace hv := q_sR_e hv
  obtain ⟨_, cg10, dg10, yg10⟩ := hv
  replace h := q_be h
  obtain ⟨g11, hv, h⟩ := h
  replace hv := q_nA_e hv
  obtain ⟨ag11, bg11, yg11⟩ := hv
  replace h := q_be h
  obtain ⟨g12, hv, h⟩ := h
  replace hv := q_sR_e hv
  obtain ⟨_, cg12, dg12, yg12⟩ := hv
  replace h := q_be h
  obtain ⟨g13, hv, h⟩ := h
  replace hv := q_nA_e hv
  obtain ⟨ag13, bg13, yg13⟩ := hv
  refine ⟨⟨some _, rfl⟩, Or.inl rfl, ag7, bg7, _, yg7, _, cg8, dg8, rfl, rfl, _, yg8, ⟨some _, rfl⟩, Or.inl rfl, ag9, bg9, _, yg9, _, cg10, dg10, rfl, rfl, _, yg10, ⟨some _, rfl⟩, Or.inl rfl, ag11, bg11, _, yg11, _, cg12, dg12, rfl, rfl, _, yg12, ⟨some _, rfl⟩, Or.inl rfl, ag13, bg13, _, yg13, ?_⟩
  replace h := q_be h
  obtain ⟨g14, hv, h⟩ := h
  replace hv := q_sR_e hv
  obtain ⟨_, cg14, dg14, yg14⟩ := hv
  replace h := q_be h
  obtain ⟨g15, hv, h⟩ := h
  replace hv := q_nA_e hv
  obtain ⟨ag15, bg15, yg15⟩ := hv
  replace h := q_be h
  obtain ⟨g16, hv, h⟩ := h
  replace hv := q_sR_e hv
  obtain ⟨_, cg16, dg16, yg16⟩ := hv
  replace h := q_be h
  obtain ⟨g17, hv, h⟩ := h
  replace hv := q_nA_e hv
  obtain ⟨ag17, bg17, yg17⟩ := hv
  replace h := q_be h
  obtain ⟨g18, hv, h⟩ := h
  replace hv := q_sR_e hv
  obtain ⟨_, cg18, dg18, yg18⟩ := hv
  replace h := q_be h
  obtain ⟨g19, hv, h⟩ := h
  replace hv := q_nA_e hv
  obtain ⟨ag19, bg19, yg19⟩ := hv
  replace h := q_be h
  obtain ⟨g20, hv, h⟩ := h
  replace hv := q_sR_e hv
  obtain ⟨_, cg20, dg20, yg20⟩ := hv
  refine ⟨_, cg14, dg14, rfl, rfl, _, yg14, ⟨some _, rfl⟩, Or.inl rfl, ag15, bg15, _, yg15, _, cg16, dg16, rfl, rfl, _, yg16, ⟨some _, rfl⟩, Or.inl rfl, ag17, bg17, _, yg17, _, cg18, dg18, rfl, rfl, _, yg18, ⟨some _, rfl⟩, Or.inl rfl, ag19, bg19, _, yg19, _, cg20, dg20, rfl, rfl, _, yg20, ?_⟩
  replace h := q_be h
  obtain ⟨g21, hv, h⟩ := h
  replace hv := q_nA_e hv
  obtain ⟨ag21, bg21, yg21⟩ := hv
  replace h := q_be h
  obtain ⟨g22, hv, h⟩ := h
  replace hv := q_sR_e hv
  obtain ⟨_, cg22, dg22, yg22⟩ := hv
  replace h := q_be h
  obtain ⟨g23, hv, h⟩ := h
  replace hv := q_nA_e hv
  obtain ⟨ag23, bg23, yg23⟩ := hv
  replace h := q_be h
  obtain ⟨g24, hv, h⟩ := h
  replace hv := q_sR_e hv
  obtain ⟨_, cg24, dg24, yg24⟩ := hv
  replace h := q_be h
  obtain ⟨v25, hv, h⟩ := h
  replace hv := q_fR_e hv
  obtain ⟨_, cv25, dv25⟩ := hv
  replace h := q_be h
  obtain ⟨a26, ea26, h⟩ := h
  subst ea26
  replace h := q_be h
  obtain ⟨v27, hv, h⟩ := h
  refine ⟨⟨some _, rfl⟩, Or.inl rfl, ag21, bg21, _, yg21, _, cg22, dg22, rfl, rfl, _, yg22, ⟨some _, rfl⟩, Or.inl rfl, ag23, bg23, _, yg23, _, cg24, dg24, rfl, rfl, _, yg24, ⟨some _, rfl⟩, _, _, cv25, dv25, ?_⟩
  refine rJ7_fill_53178 hv ?_
  cases h
  exact ⟨rfl, rfl, hk⟩
noncomputable def bX3_init_108 (x0 : Nat) (x1 : Int32) (g : ps_G) : Option ((Int32 × ps_G) ⊕ (ps_G)) := if (4 : Int32) ≤ x1 then (some (.inr g)) else (Option.bind (q_fR 3 0 g x0) fun v27 => Option.bind (v27) fun a28 => Option.bind (q_wI g a28 (x1 * (10 : Int32)) (1024 : Int32)) fun g29 => Option.bind (q_fR 3 0 g29 x0) fun v30 => Option.bind (v30) fun a31 => Option.bind (q_wI g29 a31 ((x1 * (10 : Int32)) + (4 : Int32)) (1024 : Int32)) fun g32 => Option.bind (q_fR 3 0 g32 x0) fun v33 => Option.bind (v33) fun a34 => Option.bind (q_wI g32 a34 ((x1 * (10 : Int32)) + (8 : Int32)) (1024 : Int32)) fun g35 => some (.inl (x1 + (1 : Int32), g35)))
theorem pbX3_init_108 {d : Nat} {Q : ps_Rs → ps_G → Prop}  {x0 : Nat} {x1 : Int32} {g : ps_G} {x : (Int32 × ps_G) ⊕ (ps_G)} (h : bX3_init_108 x0 x1 g = some x) (hh : ∀ s' : Int32 × ps_G, x = .inl s' → ps_At mX3_init (d + 1) 108 [(0, .ref x0), (1, .int s'.1)] [] s'.2 Q) (he : ∀ r' : ps_G, x = .inr r' → ps_At mX3_init (d + 1) 160 [] [] r' Q) : ps_At mX3_init (d + 1) 108 [(0, .ref x0), (1, .int x1)] [] g Q := by
  unfold bX3_init_108 at h
  refine sX3_init_108 ?_
  refine And.intro (fun hc25 => ?_) (fun hc25 => ?_)
  · replace h := q_ifp (hc25) h
    exact ps_weak (he g (Option.some.inj h).symm) trivial
  · replace h := q_ifn (hc25) h
    replace h := q_be h
    obtain ⟨v27, hv, h⟩ := h
    replace hv := q_fR_e hv
    obtain ⟨_, cv27, dv27⟩ := hv
    replace h := q_be h
    obtain ⟨a28, ea28, h⟩ := h
    subst ea28
    replace h := q_be h
    obtain ⟨g29, hv, h⟩ := h
    replace hv := q_wI_e hv
    obtain ⟨_, _, cg29, pg29, ig29, yg29⟩ := hv
    replace h := q_be h
    obtain ⟨v30, hv, h⟩ := h
    replace hv := q_fR_e hv
    obtain ⟨_, cv30, dv30⟩ := hv
    replace h := q_be h
    obtain ⟨a31, ea31, h⟩ := h
    subst ea31
    replace h := q_be h
    obtain ⟨g32, hv, h⟩ := h
    replace hv := q_wI_e hv
    obtain ⟨_, _, cg32, pg32, ig32, yg32⟩ := hv
    replace h := q_be h
    obtain ⟨v33, hv, h⟩ := h
    replace hv := q_fR_e hv
    obtain ⟨_, cv33, dv33⟩ := hv
    replace h := q_be h
    obtain ⟨a34, ea34, h⟩ := h
    subst ea34
    replace h := q_be h
    obtain ⟨g35, hv, h⟩ := h
    replace hv := q_wI_e hv
    obtain ⟨_, _, cg35, pg35, ig35, yg35⟩ := hv
    refine ⟨⟨some _, rfl⟩, _, _, cv27, dv27, _, _, cg29, pg29, ig29, _, yg29, ⟨some _, rfl⟩, _, _, cv30, dv30, _, _, cg32, pg32, ig32, _, yg32, ⟨some _, rfl⟩, _, _, cv33, dv33, _, _, cg35, pg35, ig35, _, yg35, by decide, ?_⟩
    exact ps_weak (hh (x1 + (1 : Int32), g35) (Option.some.inj h).symm) ⟨rfl, rfl, trivial⟩
noncomputable def fX3_init (g : ps_G) (x0 : Nat) : Option (ps_G) := Option.bind (q_nA .int g (40 : Int32)) fun g1 => Option.bind (q_sR 3 0 g1 x0 (some g.1)) fun g2 => Option.bind (q_nA .int g2 (4 : Int32)) fun g3 => Option.bind (q_wI g3 g2.1 (0 : Int32) (0 : Int32)) fun g4 => Option.bind (q_wI g4 g2.1 (1 : Int32) (64 : Int32)) fun g5 => Option.bind (q_wI g5 g2.1 (2 : Int32) (64 : Int32)) fun g6 => Option.bind (q_wI g6 g2.1 (3 : Int32) (64 : Int32)) fun g7 => Option.bind (q_sR 3 1 g7 x0 (some g2.1)) fun g8 => Option.bind (q_nA .int g8 (256 : Int32)) fun g9 => Option.bind (q_sR 3 2 g9 x0 (some g8.1)) fun g10 => Option.bind (q_nA .long g10 (9 : Int32)) fun g11 => Option.bind (q_sR 3 3 g11 x0 (some g10.1)) fun g12 => Option.bind (q_nA .int g12 (576 : Int32)) fun g13 => Option.bind (q_sR 3 4 g13 x0 (some g12.1)) fun g14 => Option.bind (q_nA .int g14 (16 : Int32)) fun g15 => Option.bind (q_sR 3 5 g15 x0 (some g14.1)) fun g16 => Option.bind (q_nA .int g16 (16 : Int32)) fun g17 => Option.bind (q_sR 3 6 g17 x0 (some g16.1)) fun g18 => Option.bind (q_nA .int g18 (16 : Int32)) fun g19 => Option.bind (q_sR 3 7 g19 x0 (some g18.1)) fun g20 => Option.bind (q_nA .int g20 (1728 : Int32)) fun g21 => Option.bind (q_sR 3 11 g21 x0 (some g20.1)) fun g22 => Option.bind (q_nA .int g22 (576 : Int32)) fun g23 => Option.bind (q_sR 3 12 g23 x0 (some g22.1)) fun g24 => Option.bind (q_lp (fun s => bX3_init_108 x0 s.1 s.2) ((0 : Int32), g24)) fun s38 => some s38
theorem rX3_init {d : Nat} {Q : ps_Rs → ps_G → Prop} {g : ps_G} {x0 : Nat} {r : ps_G} (h : fX3_init g x0 = some r) (hk : Q (.inl none) r) : ps_Ok mX3_init (d + 1) [.ref x0] g Q := by
  unfold fX3_init at h
  refine sX3_init_0 ?_
  replace h := q_be h
  obtain ⟨g1, hv, h⟩ := h
  replace hv := q_nA_e hv
  obtain ⟨ag1, bg1, yg1⟩ := hv
  replace h := q_be h
  obtain ⟨g2, hv, h⟩ := h
  replace hv := q_sR_e hv
  obtain ⟨_, cg2, dg2, yg2⟩ := hv
  replace h := q_be h
  obtain ⟨g3, hv, h⟩ := h
  replace hv := q_nA_e hv
  obtain ⟨ag3, bg3, yg3⟩ := hv
  replace h := q_be h
  obtain ⟨g4, hv, h⟩ := h
  replace hv := q_wI_e hv
  obtain ⟨_, _, cg4, pg4, ig4, yg4⟩ := hv
  replace h := q_be h
  obtain ⟨g5, hv, h⟩ := h
  replace hv := q_wI_e hv
  obtain ⟨_, _, cg5, pg5, ig5, yg5⟩ := hv
  replace h := q_be h
  obtain ⟨g6, hv, h⟩ := h
  replace hv := q_wI_e hv
  obtain ⟨_, _, cg6, pg6, ig6, yg6⟩ := hv
  refine ⟨⟨some _, rfl⟩, by decide, ⟨some _, rfl⟩, Or.inl rfl, ag1, bg1, _, yg1, _, cg2, dg2, rfl, rfl, _, yg2, ⟨some _, rfl⟩, Or.inl rfl, ag3, bg3, _, yg3, rfl, _, _, cg4, pg4, ig4, _, yg4, rfl, _, _, cg5, pg5, ig5, _, yg5, rfl, _, _, cg6, pg6, ig6, _, yg6, ?_⟩
  replace h := q_be h
  obtain ⟨g7, hv, h⟩ := h
  replace hv := q_wI_e hv
  obtain ⟨_, _, cg7, pg7, ig7, yg7⟩ := hv
  replace h := q_be h
  obtain ⟨g8, hv, h⟩ := h
  replace hv := q_sR_e hv
  obtain ⟨_, cg8, dg8, yg8⟩ := hv
  replace h := q_be h
  obtain ⟨g9, hv, h⟩ := h
  replace hv := q_nA_e hv
  obtain ⟨ag9, bg9, yg9⟩ := hv
  replace h := q_be h
  obtain ⟨g10, hv, h⟩ := h
  replace hv := q_sR_e hv
  obtain ⟨_, cg10, dg10, yg10⟩ := hv
  replace h := q_be h
  obtain ⟨g11, hv, h⟩ := h
  replace hv := q_nA_e hv
  obtain ⟨ag11, bg11, yg11⟩ := hv
  replace h := q_be h
  obtain ⟨g12, hv, h⟩ := h
  replace hv := q_sR_e hv
  obtain ⟨_, cg12, dg12, yg12⟩ := hv
  refine ⟨rfl, _, _, cg7, pg7, ig7, _, yg7, _, cg8, dg8, rfl, rfl, _, yg8, ⟨some _, rfl⟩, Or.inl rfl, ag9, bg9, _, yg9, _, cg10, dg10, rfl, rfl, _, yg10, ⟨some _, rfl⟩, Or.inr (Or.inl rfl), ag11, bg11, _, yg11, _, cg12, dg12, rfl, rfl, _, yg12, ?_⟩
  replace h := q_be h
  obtain ⟨g13, hv, h⟩ := h
  replace hv := q_nA_e hv
  obtain ⟨ag13, bg13, yg13⟩ := hv
  replace h := q_be h
  obtain ⟨g14, hv, h⟩ := h
  replace hv := q_sR_e hv
  obtain ⟨_, cg14, dg14, yg14⟩ := hv
  replace h := q_be h
  obtain ⟨g15, hv, h⟩ := h
  replace hv := q_nA_e hv
  obtain ⟨ag15, bg15, yg15⟩ := hv
  replace h := q_be h
  obtain ⟨g16, hv, h⟩ := h
  replace hv := q_sR_e hv
  obtain ⟨_, cg16, dg16, yg16⟩ := hv
  replace h := q_be h
  obtain ⟨g17, hv, h⟩ := h
  replace hv := q_nA_e hv
  obtain ⟨ag17, bg17, yg17⟩ := hv
  replace h := q_be h
  obtain ⟨g18, hv, h⟩ := h
  replace hv := q_sR_e hv
  obtain ⟨_, cg18, dg18, yg18⟩ := hv
  replace h := q_be h
  obtain ⟨g19, hv, h⟩ := h
  replace hv := q_nA_e hv
  obtain ⟨ag19, bg19, yg19⟩ := hv
  refine ⟨⟨some _, rfl⟩, Or.inl rfl, ag13, bg13, _, yg13, _, cg14, dg14, rfl, rfl, _, yg14, ⟨some _, rfl⟩, Or.inl rfl, ag15, bg15, _, yg15, _, cg16, dg16, rfl, rfl, _, yg16, ⟨some _, rfl⟩, Or.inl rfl, ag17, bg17, _, yg17, _, cg18, dg18, rfl, rfl, _, yg18, ⟨some _, rfl⟩, Or.inl rfl, ag19, bg19, _, yg19, ?_⟩
  replace h := q_be h
  obtain ⟨g20, hv, h⟩ := h
  replace hv := q_sR_e hv
  obtain ⟨_, cg20, dg20, yg20⟩ := hv
  replace h := q_be h
  obtain ⟨g21, hv, h⟩ := h
  replace hv := q_nA_e hv
  obtain ⟨ag21, bg21, yg21⟩ := hv
  replace h := q_be h
  obtain ⟨g22, hv, h⟩ := h
  replace hv := q_sR_e hv
  obtain ⟨_, cg22, dg22, yg22⟩ := hv
  replace h := q_be h
  obtain ⟨g23, hv, h⟩ := h
  replace hv := q_nA_e hv
  obtain ⟨ag23, bg23, yg23⟩ := hv
  replace h := q_be h
  obtain ⟨g24, hv, h⟩ := h
  replace hv := q_sR_e hv
  obtain ⟨_, cg24, dg24, yg24⟩ := hv
  refine ⟨_, cg20, dg20, rfl, rfl, _, yg20, ⟨some _, rfl⟩, Or.inl rfl, ag21, bg21, _, yg21, _, cg22, dg22, rfl, rfl, _, yg22, ⟨some _, rfl⟩, Or.inl rfl, ag23, bg23, _, yg23, _, cg24, dg24, rfl, rfl, _, yg24, by decide, ?_⟩
  replace h := q_be h
  obtain ⟨s38, hl, h⟩ := h
  refine ps_weak (q_lp_ok hl (fun s => ps_At mX3_init (d + 1) 108 [(0, .ref x0), (1, .int s.1)] [] s.2 Q) (fun r => ps_At mX3_init (d + 1) 160 [] [] r Q) (fun s x hb hh he => pbX3_init_108 hb hh he) ?_) ⟨rfl, rfl, trivial⟩
  refine (?_ : ps_At mX3_init (d + 1) 160 [] [] s38 Q)
  refine sX3_init_160 ?_
  cases h
  exact ⟨rfl, rfl, hk⟩
noncomputable def fX7_init (g : ps_G) (x0 : Nat) : Option (ps_G) := Option.bind (q_nA .int g (3000 : Int32)) fun g1 => Option.bind (q_sR 7 0 g1 x0 (some g.1)) fun g2 => Option.bind (q_nA .int g2 (2328 : Int32)) fun g3 => Option.bind (q_sR 7 2 g3 x0 (some g2.1)) fun g4 => some g4
theorem rX7_init {d : Nat} {Q : ps_Rs → ps_G → Prop} {g : ps_G} {x0 : Nat} {r : ps_G} (h : fX7_init g x0 = some r) (hk : Q (.inl none) r) : ps_Ok mX7_init (d + 1) [.ref x0] g Q := by
  unfold fX7_init at h
  refine sX7_init_0 ?_
  replace h := q_be h
  obtain ⟨g1, hv, h⟩ := h
  replace hv := q_nA_e hv
  obtain ⟨ag1, bg1, yg1⟩ := hv
  replace h := q_be h
  obtain ⟨g2, hv, h⟩ := h
  replace hv := q_sR_e hv
  obtain ⟨_, cg2, dg2, yg2⟩ := hv
  replace h := q_be h
  obtain ⟨g3, hv, h⟩ := h
  replace hv := q_nA_e hv
  obtain ⟨ag3, bg3, yg3⟩ := hv
  replace h := q_be h
  obtain ⟨g4, hv, h⟩ := h
  replace hv := q_sR_e hv
  obtain ⟨_, cg4, dg4, yg4⟩ := hv
  cases h
  exact ⟨⟨some _, rfl⟩, by decide, ⟨some _, rfl⟩, Or.inl rfl, ag1, bg1, _, yg1, _, cg2, dg2, rfl, rfl, _, yg2, ⟨some _, rfl⟩, Or.inl rfl, ag3, bg3, _, yg3, _, cg4, dg4, rfl, rfl, _, yg4, rfl, rfl, hk⟩
noncomputable def fX2_init (g : ps_G) (x0 : Nat) : Option (ps_G) := Option.bind (q_nA .int g (8000 : Int32)) fun g1 => Option.bind (q_sR 2 0 g1 x0 (some g.1)) fun g2 => Option.bind (q_nA .int g2 (2328 : Int32)) fun g3 => Option.bind (q_sR 2 4 g3 x0 (some g2.1)) fun g4 => Option.bind (q_nA .int g4 (320 : Int32)) fun g5 => Option.bind (q_sR 2 7 g5 x0 (some g4.1)) fun g6 => Option.bind (q_nA .int g6 (16 : Int32)) fun g7 => Option.bind (q_sR 2 8 g7 x0 (some g6.1)) fun g8 => Option.bind (q_nA .int g8 (288 : Int32)) fun g9 => Option.bind (q_sR 2 9 g9 x0 (some g8.1)) fun g10 => Option.bind (q_nA .int g10 (16 : Int32)) fun g11 => Option.bind (q_sR 2 10 g11 x0 (some g10.1)) fun g12 => Option.bind (q_nA .int g12 (32 : Int32)) fun g13 => Option.bind (q_sR 2 11 g13 x0 (some g12.1)) fun g14 => Option.bind (q_nA .int g14 (17 : Int32)) fun g15 => Option.bind (q_sR 2 12 g15 x0 (some g14.1)) fun g16 => some g16
theorem rX2_init {d : Nat} {Q : ps_Rs → ps_G → Prop} {g : ps_G} {x0 : Nat} {r : ps_G} (h : fX2_init g x0 = some r) (hk : Q (.inl none) r) : ps_Ok mX2_init (d + 1) [.ref x0] g Q := by
  unfold fX2_init at h
  refine sX2_init_0 ?_
  replace h := q_be h
  obtain ⟨g1, hv, h⟩ := h
  replace hv := q_nA_e hv
  obtain ⟨ag1, bg1, yg1⟩ := hv
  replace h := q_be h
  obtain ⟨g2, hv, h⟩ := h
  replace hv := q_sR_e hv
  obtain ⟨_, cg2, dg2, yg2⟩ := hv
  replace h := q_be h
  obtain ⟨g3, hv, h⟩ := h
  replace hv := q_nA_e hv
  obtain ⟨ag3, bg3, yg3⟩ := hv
  replace h := q_be h
  obtain ⟨g4, hv, h⟩ := h
  replace hv := q_sR_e hv
  obtain ⟨_, cg4, dg4, yg4⟩ := hv
  replace h := q_be h
  obtain ⟨g5, hv, h⟩ := h
  replace hv := q_nA_e hv
  obtain ⟨ag5, bg5, yg5⟩ := hv
  replace h := q_be h
  obtain ⟨g6, hv, h⟩ := h
  replace hv := q_sR_e hv
  obtain ⟨_, cg6, dg6, yg6⟩ := hv
  refine ⟨⟨some _, rfl⟩, by decide, ⟨some _, rfl⟩, Or.inl rfl, ag1, bg1, _, yg1, _, cg2, dg2, rfl, rfl, _, yg2, ⟨some _, rfl⟩, Or.inl rfl, ag3, bg3, _, yg3, _, cg4, dg4, rfl, rfl, _, yg4, ⟨some _, rfl⟩, Or.inl rfl, ag5, bg5, _, yg5, _, cg6, dg6, rfl, rfl, _, yg6, ?_⟩
  replace h := q_be h
  obtain ⟨g7, hv, h⟩ := h
  replace hv := q_nA_e hv
  obtain ⟨ag7, bg7, yg7⟩ := hv
  replace h := q_be h
  obtain ⟨g8, hv, h⟩ := h
  replace hv := q_sR_e hv
  obtain ⟨_, cg8, dg8, yg8⟩ := hv
  replace h := q_be h
  obtain ⟨g9, hv, h⟩ := h
  replace hv := q_nA_e hv
  obtain ⟨ag9, bg9, yg9⟩ := hv
  replace h := q_be h
  obtain ⟨g10, hv, h⟩ := h
  replace hv := q_sR_e hv
  obtain ⟨_, cg10, dg10, yg10⟩ := hv
  replace h := q_be h
  obtain ⟨g11, hv, h⟩ := h
  replace hv := q_nA_e hv
  obtain ⟨ag11, bg11, yg11⟩ := hv
  replace h := q_be h
  obtain ⟨g12, hv, h⟩ := h
  replace hv := q_sR_e hv
  obtain ⟨_, cg12, dg12, yg12⟩ := hv
  replace h := q_be h
  obtain ⟨g13, hv, h⟩ := h
  replace hv := q_nA_e hv
  obtain ⟨ag13, bg13, yg13⟩ := hv
  refine ⟨⟨some _, rfl⟩, Or.inl rfl, ag7, bg7, _, yg7, _, cg8, dg8, rfl, rfl, _, yg8, ⟨some _, rfl⟩, Or.inl rfl, ag9, bg9, _, yg9, _, cg10, dg10, rfl, rfl, _, yg10, ⟨some _, rfl⟩, Or.inl rfl, ag11, bg11, _, yg11, _, cg12, dg12, rfl, rfl, _, yg12, ⟨some _, rfl⟩, Or.inl rfl, ag13, bg13, _, yg13, ?_⟩
  replace h := q_be h
  obtain ⟨g14, hv, h⟩ := h
  replace hv := q_sR_e hv
  obtain ⟨_, cg14, dg14, yg14⟩ := hv
  replace h := q_be h
  obtain ⟨g15, hv, h⟩ := h
  replace hv := q_nA_e hv
  obtain ⟨ag15, bg15, yg15⟩ := hv
  replace h := q_be h
  obtain ⟨g16, hv, h⟩ := h
  replace hv := q_sR_e hv
  obtain ⟨_, cg16, dg16, yg16⟩ := hv
  cases h
  exact ⟨_, cg14, dg14, rfl, rfl, _, yg14, ⟨some _, rfl⟩, Or.inl rfl, ag15, bg15, _, yg15, _, cg16, dg16, rfl, rfl, _, yg16, rfl, rfl, hk⟩
noncomputable def fX8_init (g : ps_G) (x0 : Nat) : Option (ps_G) := Option.bind (q_sR 8 2 g x0 (some 0)) fun g1 => Option.bind (q_nA .int g1 (256 : Int32)) fun g2 => Option.bind (q_sR 8 7 g2 x0 (some g1.1)) fun g3 => Option.bind (q_nA .int g3 (256 : Int32)) fun g4 => Option.bind (q_sR 8 9 g4 x0 (some g3.1)) fun g5 => Option.bind (fX2_init (q_new 2 g5) g5.1) fun v6 => Option.bind (q_sR 8 12 v6 x0 (some g5.1)) fun g7 => some g7
theorem rX8_init {d : Nat} {Q : ps_Rs → ps_G → Prop} {g : ps_G} {x0 : Nat} {r : ps_G} (h : fX8_init g x0 = some r) (hk : Q (.inl none) r) : ps_Ok mX8_init (d + 2) [.ref x0] g Q := by
  unfold fX8_init at h
  refine sX8_init_0 ?_
  replace h := q_be h
  obtain ⟨g1, hv, h⟩ := h
  replace hv := q_sR_e hv
  obtain ⟨_, cg1, dg1, yg1⟩ := hv
  replace h := q_be h
  obtain ⟨g2, hv, h⟩ := h
  replace hv := q_nA_e hv
  obtain ⟨ag2, bg2, yg2⟩ := hv
  replace h := q_be h
  obtain ⟨g3, hv, h⟩ := h
  replace hv := q_sR_e hv
  obtain ⟨_, cg3, dg3, yg3⟩ := hv
  replace h := q_be h
  obtain ⟨g4, hv, h⟩ := h
  replace hv := q_nA_e hv
  obtain ⟨ag4, bg4, yg4⟩ := hv
  replace h := q_be h
  obtain ⟨g5, hv, h⟩ := h
  replace hv := q_sR_e hv
  obtain ⟨_, cg5, dg5, yg5⟩ := hv
  replace h := q_be h
  obtain ⟨v6, hv, h⟩ := h
  refine ⟨⟨some _, rfl⟩, by decide, ⟨some _, rfl⟩, _, cg1, dg1, rfl, rfl, _, yg1, ⟨some _, rfl⟩, Or.inl rfl, ag2, bg2, _, yg2, _, cg3, dg3, rfl, rfl, _, yg3, ⟨some _, rfl⟩, Or.inl rfl, ag4, bg4, _, yg4, _, cg5, dg5, rfl, rfl, _, yg5, ⟨some _, rfl⟩, rfl, ?_⟩
  refine rX2_init hv ?_
  replace h := q_be h
  obtain ⟨g7, hv, h⟩ := h
  replace hv := q_sR_e hv
  obtain ⟨_, cg7, dg7, yg7⟩ := hv
  cases h
  exact ⟨_, cg7, dg7, rfl, rfl, _, yg7, rfl, rfl, hk⟩
noncomputable def fX11_init (g : ps_G) (x0 : Nat) : Option (ps_G) := Option.bind (fX9_init (q_new 9 g) g.1 (8 : Int32) (8 : Int32)) fun v1 => Option.bind (q_sR 11 0 v1 x0 (some g.1)) fun g2 => Option.bind (q_nR 4 g2 (24 : Int32)) fun g3 => Option.bind (q_sR 11 1 g3 x0 (some g2.1)) fun g4 => Option.bind (q_nR 4 g4 (24 : Int32)) fun g5 => Option.bind (q_sR 11 3 g5 x0 (some g4.1)) fun g6 => Option.bind (fX5_init (q_new 5 g6) g6.1) fun v7 => Option.bind (q_sR 11 5 v7 x0 (some g6.1)) fun g8 => Option.bind (q_fR 11 5 (q_new 10 g8) x0) fun v9 => Option.bind (v9) fun a10 => Option.bind (fX10_init (q_new 10 g8) g8.1 a10) fun v11 => Option.bind (q_sR 11 6 v11 x0 (some g8.1)) fun g12 => Option.bind (fX0_init (q_new 0 g12) g12.1) fun v13 => Option.bind (q_sR 11 7 v13 x0 (some g12.1)) fun g14 => Option.bind (fX1_init (q_new 1 g14) g14.1) fun v15 => Option.bind (q_sR 11 8 v15 x0 (some g14.1)) fun g16 => Option.bind (fX6_init (q_new 6 g16) g16.1) fun v17 => Option.bind (q_sR 11 9 v17 x0 (some g16.1)) fun g18 => Option.bind (fX3_init (q_new 3 g18) g18.1) fun v19 => Option.bind (q_sR 11 10 v19 x0 (some g18.1)) fun g20 => Option.bind (fX7_init (q_new 7 g20) g20.1) fun v21 => Option.bind (q_sR 11 11 v21 x0 (some g20.1)) fun g22 => Option.bind (fX8_init (q_new 8 g22) g22.1) fun v23 => Option.bind (q_sR 11 12 v23 x0 (some g22.1)) fun g24 => Option.bind (q_nA .int g24 (8000 : Int32)) fun g25 => Option.bind (q_sR 11 13 g25 x0 (some g24.1)) fun g26 => Option.bind (q_nA .int g26 (576 : Int32)) fun g27 => Option.bind (q_sR 11 17 g27 x0 (some g26.1)) fun g28 => some g28
theorem rX11_init {d : Nat} {Q : ps_Rs → ps_G → Prop} {g : ps_G} {x0 : Nat} {r : ps_G} (h : fX11_init g x0 = some r) (hk : Q (.inl none) r) : ps_Ok mX11_init (d + 3) [.ref x0] g Q := by
  unfold fX11_init at h
  refine sX11_init_0 ?_
  replace h := q_be h
  obtain ⟨v1, hv, h⟩ := h
  refine ⟨⟨some _, rfl⟩, by decide, ⟨some _, rfl⟩, rfl, ?_⟩
  refine rX9_init hv ?_
  replace h := q_be h
  obtain ⟨g2, hv, h⟩ := h
  replace hv := q_sR_e hv
  obtain ⟨_, cg2, dg2, yg2⟩ := hv
  replace h := q_be h
  obtain ⟨g3, hv, h⟩ := h
  replace hv := q_nR_e hv
  obtain ⟨ag3, bg3, yg3⟩ := hv
  replace h := q_be h
  obtain ⟨g4, hv, h⟩ := h
  replace hv := q_sR_e hv
  obtain ⟨_, cg4, dg4, yg4⟩ := hv
  replace h := q_be h
  obtain ⟨g5, hv, h⟩ := h
  replace hv := q_nR_e hv
  obtain ⟨ag5, bg5, yg5⟩ := hv
  replace h := q_be h
  obtain ⟨g6, hv, h⟩ := h
  replace hv := q_sR_e hv
  obtain ⟨_, cg6, dg6, yg6⟩ := hv
  replace h := q_be h
  obtain ⟨v7, hv, h⟩ := h
  refine ⟨_, cg2, dg2, rfl, rfl, _, yg2, ⟨some _, rfl⟩, ag3, bg3, _, yg3, _, cg4, dg4, rfl, rfl, _, yg4, ⟨some _, rfl⟩, ag5, bg5, _, yg5, _, cg6, dg6, rfl, rfl, _, yg6, ⟨some _, rfl⟩, rfl, ?_⟩
  refine rX5_init hv ?_
  replace h := q_be h
  obtain ⟨g8, hv, h⟩ := h
  replace hv := q_sR_e hv
  obtain ⟨_, cg8, dg8, yg8⟩ := hv
  replace h := q_be h
  obtain ⟨v9, hv, h⟩ := h
  replace hv := q_fR_e hv
  obtain ⟨_, cv9, dv9⟩ := hv
  replace h := q_be h
  obtain ⟨a10, ea10, h⟩ := h
  subst ea10
  replace h := q_be h
  obtain ⟨v11, hv, h⟩ := h
  refine ⟨_, cg8, dg8, rfl, rfl, _, yg8, ⟨some _, rfl⟩, rfl, ⟨some _, rfl⟩, _, _, cv9, dv9, ?_⟩
  refine rX10_init hv ?_
  refine sX11_init_60 ?_
  replace h := q_be h
  obtain ⟨g12, hv, h⟩ := h
  replace hv := q_sR_e hv
  obtain ⟨_, cg12, dg12, yg12⟩ := hv
  replace h := q_be h
  obtain ⟨v13, hv, h⟩ := h
  refine ⟨_, cg12, dg12, rfl, rfl, _, yg12, ⟨some _, rfl⟩, rfl, ?_⟩
  refine rX0_init hv ?_
  replace h := q_be h
  obtain ⟨g14, hv, h⟩ := h
  replace hv := q_sR_e hv
  obtain ⟨_, cg14, dg14, yg14⟩ := hv
  replace h := q_be h
  obtain ⟨v15, hv, h⟩ := h
  refine ⟨_, cg14, dg14, rfl, rfl, _, yg14, ⟨some _, rfl⟩, rfl, ?_⟩
  refine rX1_init hv ?_
  replace h := q_be h
  obtain ⟨g16, hv, h⟩ := h
  replace hv := q_sR_e hv
  obtain ⟨_, cg16, dg16, yg16⟩ := hv
  replace h := q_be h
  obtain ⟨v17, hv, h⟩ := h
  refine ⟨_, cg16, dg16, rfl, rfl, _, yg16, ⟨some _, rfl⟩, rfl, ?_⟩
  refine rX6_init hv ?_
  replace h := q_be h
  obtain ⟨g18, hv, h⟩ := h
  replace hv := q_sR_e hv
  obtain ⟨_, cg18, dg18, yg18⟩ := hv
  replace h := q_be h
  obtain ⟨v19, hv, h⟩ := h
  refine ⟨_, cg18, dg18, rfl, rfl, _, yg18, ⟨some _, rfl⟩, rfl, ?_⟩
  refine rX3_init hv ?_
  refine sX11_init_104 ?_
  replace h := q_be h
  obtain ⟨g20, hv, h⟩ := h
  replace hv := q_sR_e hv
  obtain ⟨_, cg20, dg20, yg20⟩ := hv
  replace h := q_be h
  obtain ⟨v21, hv, h⟩ := h
  refine ⟨_, cg20, dg20, rfl, rfl, _, yg20, ⟨some _, rfl⟩, rfl, ?_⟩
  refine rX7_init hv ?_
  replace h := q_be h
  obtain ⟨g22, hv, h⟩ := h
  replace hv := q_sR_e hv
  obtain ⟨_, cg22, dg22, yg22⟩ := hv
  replace h := q_be h
  obtain ⟨v23, hv, h⟩ := h
  refine ⟨_, cg22, dg22, rfl, rfl, _, yg22, ⟨some _, rfl⟩, rfl, ?_⟩
  refine rX8_init hv ?_
  replace h := q_be h
  obtain ⟨g24, hv, h⟩ := h
  replace hv := q_sR_e hv
  obtain ⟨_, cg24, dg24, yg24⟩ := hv
  replace h := q_be h
  obtain ⟨g25, hv, h⟩ := h
  replace hv := q_nA_e hv
  obtain ⟨ag25, bg25, yg25⟩ := hv
  replace h := q_be h
  obtain ⟨g26, hv, h⟩ := h
  replace hv := q_sR_e hv
  obtain ⟨_, cg26, dg26, yg26⟩ := hv
  replace h := q_be h
  obtain ⟨g27, hv, h⟩ := h
  replace hv := q_nA_e hv
  obtain ⟨ag27, bg27, yg27⟩ := hv
  replace h := q_be h
  obtain ⟨g28, hv, h⟩ := h
  replace hv := q_sR_e hv
  obtain ⟨_, cg28, dg28, yg28⟩ := hv
  cases h
  exact ⟨_, cg24, dg24, rfl, rfl, _, yg24, ⟨some _, rfl⟩, Or.inl rfl, ag25, bg25, _, yg25, _, cg26, dg26, rfl, rfl, _, yg26, ⟨some _, rfl⟩, Or.inl rfl, ag27, bg27, _, yg27, _, cg28, dg28, rfl, rfl, _, yg28, rfl, rfl, hk⟩
noncomputable def jX11_fault_24 (g : ps_G) (k0 : Int32) : Option (Int32) := some k0
theorem pjX11_fault_24 {d : Nat} {Q : ps_Rs → ps_G → Prop} {g : ps_G} {k0 : Int32} {r : Int32} (h : jX11_fault_24 g k0 = some r) (hk : Q (.inl (some (.int r))) g) : ps_At mX11_fault d 24 [] [.int k0] g Q := by
  unfold jX11_fault_24 at h
  refine sX11_fault_24 ?_
  cases h
  exact ⟨rfl, hk⟩
noncomputable def fX11_fault (g : ps_G) (x0 : Nat) (x1 : Int32) : Option (Int32) := if ¬ x1 = 0 then (if ¬ x1 = (1 : Int32) then (jX11_fault_24 g (-1 : Int32)) else (Option.bind (q_fI 11 16 g x0) fun v6 => jX11_fault_24 g v6)) else (Option.bind (q_fI 11 15 g x0) fun v9 => jX11_fault_24 g v9)
theorem rX11_fault {d : Nat} {Q : ps_Rs → ps_G → Prop} {g : ps_G} {x0 : Nat} {x1 : Int32} {r : Int32} (h : fX11_fault g x0 x1 = some r) (hk : Q (.inl (some (.int r))) g) : ps_Ok mX11_fault d [.ref x0, .int x1] g Q := by
  unfold fX11_fault at h
  refine sX11_fault_0 ?_
  refine And.intro (fun hc1 => ?_) (fun hc1 => ?_)
  · replace h := q_ifp (hc1) h
    refine sX11_fault_11 ?_
    refine And.intro (fun hc4 => ?_) (fun hc4 => ?_)
    · replace h := q_ifp (hc4) h
      refine sX11_fault_23 ?_
      exact ps_weak (pjX11_fault_24 h hk) trivial
    · replace h := q_ifn (hc4) h
      replace h := q_be h
      obtain ⟨v6, hv, h⟩ := h
      replace hv := q_fI_e hv
      obtain ⟨_, cv6, dv6⟩ := hv
      refine ⟨⟨some _, rfl⟩, _, _, cv6, dv6, ?_⟩
      exact ps_weak (pjX11_fault_24 h hk) trivial
  · replace h := q_ifn (hc1) h
    replace h := q_be h
    obtain ⟨v9, hv, h⟩ := h
    replace hv := q_fI_e hv
    obtain ⟨_, cv9, dv9⟩ := hv
    refine ⟨⟨some _, rfl⟩, _, _, cv9, dv9, ?_⟩
    exact ps_weak (pjX11_fault_24 h hk) trivial
noncomputable def fX11_front (g : ps_G) (x0 : Nat) (x1 : Int32) : Option (ps_G) := Option.bind (q_fR 11 8 g x0) fun v1 => Option.bind (v1) fun a2 => Option.bind (q_sI 1 0 g a2 x1) fun g3 => some g3
theorem rX11_front {d : Nat} {Q : ps_Rs → ps_G → Prop} {g : ps_G} {x0 : Nat} {x1 : Int32} {r : ps_G} (h : fX11_front g x0 x1 = some r) (hk : Q (.inl none) r) : ps_Ok mX11_front d [.ref x0, .int x1] g Q := by
  unfold fX11_front at h
  refine sX11_front_0 ?_
  replace h := q_be h
  obtain ⟨v1, hv, h⟩ := h
  replace hv := q_fR_e hv
  obtain ⟨_, cv1, dv1⟩ := hv
  replace h := q_be h
  obtain ⟨a2, ea2, h⟩ := h
  subst ea2
  replace h := q_be h
  obtain ⟨g3, hv, h⟩ := h
  replace hv := q_sI_e hv
  obtain ⟨_, cg3, dg3, yg3⟩ := hv
  cases h
  exact ⟨⟨some _, rfl⟩, _, _, cv1, dv1, _, cg3, dg3, rfl, rfl, _, yg3, rfl, rfl, hk⟩
noncomputable def jX9_find_20 (g : ps_G) (k0 : Option Nat) : Option (Option Nat) := some k0
theorem pjX9_find_20 {d : Nat} {Q : ps_Rs → ps_G → Prop} {g : ps_G} {k0 : Option Nat} {r : Option Nat} (h : jX9_find_20 g k0 = some r) (hk : Q (.inl (some (va_rf r))) g) : ps_At mX9_find d 20 [] [va_rf k0] g Q := by
  unfold jX9_find_20 at h
  refine sX9_find_20 ?_
  cases h
  exact ⟨_, _, rfl, rfl, ⟨_, rfl, Or.inl ⟨_, rfl⟩⟩, hk⟩
noncomputable def fX9_find (g : ps_G) (x0 : Nat) (x1 : Int32) : Option (Option Nat) := if ¬ (x1 < 0) ∧ (x1 < (30 : Int32)) then (Option.bind (q_fR 9 2 g x0) fun v4 => Option.bind (v4) fun a5 => Option.bind (q_aR g a5 x1) fun v6 => jX9_find_20 g v6) else (jX9_find_20 g none)
theorem rX9_find {d : Nat} {Q : ps_Rs → ps_G → Prop} {g : ps_G} {x0 : Nat} {x1 : Int32} {r : Option Nat} (h : fX9_find g x0 x1 = some r) (hk : Q (.inl (some (va_rf r))) g) : ps_Ok mX9_find d [.ref x0, .int x1] g Q := by
  unfold fX9_find at h
  refine sX9_find_0 ?_
  have kF8 : (jX9_find_20 g none) = some r → ps_At mX9_find d 10 [] [] g Q := fun h => by
    refine sX9_find_10 ?_
    exact ps_weak (pjX9_find_20 h hk) trivial
  refine And.intro (fun hc1 => ?_) (fun hc1 => ?_)
  · exact ps_weak (kF8 (q_ifn (fun z => z.1 hc1) h)) trivial
  · refine And.intro (fun hc2 => ?_) (fun hc2 => ?_)
    · replace h := q_ifp (⟨hc1, hc2⟩) h
      refine sX9_find_14 ?_
      replace h := q_be h
      obtain ⟨v4, hv, h⟩ := h
      replace hv := q_fR_e hv
      obtain ⟨_, cv4, dv4⟩ := hv
      replace h := q_be h
      obtain ⟨a5, ea5, h⟩ := h
      subst ea5
      replace h := q_be h
      obtain ⟨v6, hv, h⟩ := h
      replace hv := q_aR_e hv
      obtain ⟨_, _, _, cv6, pv6, qv6, iv6, dv6⟩ := hv
      refine ⟨⟨some _, rfl⟩, _, _, cv4, dv4, _, _, _, _, cv6, pv6, qv6, iv6, dv6, ?_⟩
      exact ps_weak (pjX9_find_20 h hk) trivial
    · exact ps_weak (kF8 (q_ifn (fun z => hc2 z.2) h)) trivial
noncomputable def jX9_child_50 (g : ps_G) (k0 : Option Nat) : Option (Option Nat) := some k0
theorem pjX9_child_50 {d : Nat} {Q : ps_Rs → ps_G → Prop} {g : ps_G} {k0 : Option Nat} {r : Option Nat} (h : jX9_child_50 g k0 = some r) (hk : Q (.inl (some (va_rf r))) g) : ps_At mX9_child (d + 1) 50 [] [va_rf k0] g Q := by
  unfold jX9_child_50 at h
  refine sX9_child_50 ?_
  cases h
  exact ⟨_, _, rfl, rfl, ⟨_, rfl, Or.inl ⟨_, rfl⟩⟩, hk⟩
noncomputable def jX9_child_49 (g : ps_G) : Option (Option Nat) := jX9_child_50 g none
theorem pjX9_child_49 {d : Nat} {Q : ps_Rs → ps_G → Prop} {g : ps_G}  {r : Option Nat} (h : jX9_child_49 g = some r) (hk : Q (.inl (some (va_rf r))) g) : ps_At mX9_child (d + 1) 49 [] [] g Q := by
  unfold jX9_child_49 at h
  refine sX9_child_49 ?_
  exact ps_weak (pjX9_child_50 h hk) trivial
noncomputable def jX9_child_32 (g : ps_G) (x2 : Int32) (k0 : Option Nat) : Option (Option Nat) := if k0 = none then (jX9_child_49 g) else (Option.bind (k0) fun a3 => Option.bind (q_fI 4 2 g a3) fun v4 => if ¬ v4 = x2 then (jX9_child_49 g) else (jX9_child_50 g (some a3)))
theorem pjX9_child_32 {d : Nat} {Q : ps_Rs → ps_G → Prop} {g : ps_G} {x2 : Int32} {k0 : Option Nat} {r : Option Nat} (h : jX9_child_32 g x2 k0 = some r) (hk : Q (.inl (some (va_rf r))) g) : ps_At mX9_child (d + 1) 32 [(2, .int x2)] [va_rf k0] g Q := by
  unfold jX9_child_32 at h
  refine sX9_child_32 ?_
  refine ⟨_, _, rfl, by decide, ⟨_, rfl⟩, _, _, rfl, ?_⟩
  refine And.intro (fun hc2 => ?_) (fun hc2 => ?_)
  · replace h := q_ifp (hc2) h
    exact ps_weak (pjX9_child_49 h hk) trivial
  · replace h := q_ifn (hc2) h
    replace h := q_be h
    obtain ⟨a3, ea3, h⟩ := h
    subst ea3
    replace h := q_be h
    obtain ⟨v4, hv, h⟩ := h
    replace hv := q_fI_e hv
    obtain ⟨_, cv4, dv4⟩ := hv
    refine ⟨⟨some _, rfl⟩, _, _, cv4, dv4, ?_⟩
    refine And.intro (fun hc5 => ?_) (fun hc5 => ?_)
    · replace h := q_ifp (hc5) h
      exact ps_weak (pjX9_child_49 h hk) trivial
    · replace h := q_ifn (hc5) h
      refine ⟨⟨some _, rfl⟩, ?_⟩
      exact ps_weak (pjX9_child_50 h hk) trivial
noncomputable def jX9_child_18 (g : ps_G) (x2 : Int32) : Option (Option Nat) := jX9_child_32 g x2 none
theorem pjX9_child_18 {d : Nat} {Q : ps_Rs → ps_G → Prop} {g : ps_G} {x2 : Int32} {r : Option Nat} (h : jX9_child_18 g x2 = some r) (hk : Q (.inl (some (va_rf r))) g) : ps_At mX9_child (d + 1) 18 [(2, .int x2)] [] g Q := by
  unfold jX9_child_18 at h
  refine sX9_child_18 ?_
  exact ps_weak (pjX9_child_32 h hk) ⟨rfl, trivial⟩
noncomputable def fX9_child (g : ps_G) (x0 : Nat) (x1 : Int32) (x2 : Int32) : Option (Option Nat) := if x1 < 0 then (jX9_child_18 g x2) else (Option.bind (q_fI 9 4 g x0) fun v10 => if ¬ (v10 ≤ x1) ∧ (x1 < (30 : Int32)) then (Option.bind (q_fR 9 3 g x0) fun v14 => Option.bind (v14) fun a15 => Option.bind (q_aI g a15 x1) fun v16 => Option.bind (q_ob 9 g x0) fun u17 => Option.bind (fX9_find g x0 v16) fun v18 => jX9_child_32 g x2 v18) else (jX9_child_18 g x2))
theorem rX9_child {d : Nat} {Q : ps_Rs → ps_G → Prop} {g : ps_G} {x0 : Nat} {x1 : Int32} {x2 : Int32} {r : Option Nat} (h : fX9_child g x0 x1 x2 = some r) (hk : Q (.inl (some (va_rf r))) g) : ps_Ok mX9_child (d + 1) [.ref x0, .int x1, .int x2] g Q := by
  unfold fX9_child at h
  refine sX9_child_0 ?_
  refine And.intro (fun hc1 => ?_) (fun hc1 => ?_)
  · replace h := q_ifp (hc1) h
    exact ps_weak (pjX9_child_18 h hk) ⟨rfl, trivial⟩
  · replace h := q_ifn (hc1) h
    replace h := q_be h
    obtain ⟨v10, hv, h⟩ := h
    replace hv := q_fI_e hv
    obtain ⟨_, cv10, dv10⟩ := hv
    have kF20 : (jX9_child_18 g x2) = some r → ps_At mX9_child (d + 1) 18 [(2, .int x2)] [] g Q := fun h => by
      exact ps_weak (pjX9_child_18 h hk) ⟨rfl, trivial⟩
    refine ⟨⟨some _, rfl⟩, _, _, cv10, dv10, ?_⟩
    refine And.intro (fun hc11 => ?_) (fun hc11 => ?_)
    · exact ps_weak (kF20 (q_ifn (fun z => z.1 hc11) h)) ⟨rfl, trivial⟩
    · refine And.intro (fun hc12 => ?_) (fun hc12 => ?_)
      · replace h := q_ifp (⟨hc11, hc12⟩) h
        refine sX9_child_22 ?_
        replace h := q_be h
        obtain ⟨v14, hv, h⟩ := h
        replace hv := q_fR_e hv
        obtain ⟨_, cv14, dv14⟩ := hv
        replace h := q_be h
        obtain ⟨a15, ea15, h⟩ := h
        subst ea15
        replace h := q_be h
        obtain ⟨v16, hv, h⟩ := h
        replace hv := q_aI_e hv
        obtain ⟨_, _, cv16, iv16, yv16⟩ := hv
        replace h := q_be h
        obtain ⟨u17, hv, h⟩ := h
        replace hv := q_ob_e hv
        obtain ⟨_, cu17⟩ := hv
        replace h := q_be h
        obtain ⟨v18, hv, h⟩ := h
        refine ⟨⟨some _, rfl⟩, ⟨some _, rfl⟩, _, _, cv14, dv14, _, _, cv16, iv16, _, yv16, ⟨_, cu17⟩, ?_⟩
        refine rX9_find hv ?_
        exact ps_weak (pjX9_child_32 h hk) ⟨rfl, trivial⟩
      · exact ps_weak (kF20 (q_ifn (fun z => hc12 z.2) h)) ⟨rfl, trivial⟩
def fX11_within (x0 : Int32) (x1 : Int32) (x2 : Int32) : Int32 := (if x1 ≤ x0 then (if x0 ≤ x2 then x0 else x2) else x1)
theorem rX11_within {d : Nat} {Q : ps_Rs → ps_G → Prop} {g : ps_G} {x0 : Int32} {x1 : Int32} {x2 : Int32} {r : Int32} (h : fX11_within x0 x1 x2 = r) (hk : Q (.inl (some (.int r))) g) : ps_Ok mX11_within d [.int x0, .int x1, .int x2] g Q := by
  unfold fX11_within at h
  refine sX11_within_0 ?_
  have kJ3 : ∀ w2 : Int32, w2 = (if x1 ≤ x0 then (if x0 ≤ x2 then x0 else x2) else x1) → ps_At mX11_within d 19 [] [.int w2] g Q := by
    rintro _ rfl
    refine sX11_within_19 ?_
    subst h
    exact ⟨rfl, hk⟩
  refine And.intro (fun hc1 => ?_) (fun hc1 => ?_)
  · refine sX11_within_9 ?_
    have kJ6 : ∀ w5 : Int32, w5 = (if x0 ≤ x2 then x0 else x2) → ps_At mX11_within d 19 [] [.int w5] g Q := by
      rintro _ rfl
      exact ps_weak (kJ3 _ (if_pos (hc1)).symm) trivial
    refine And.intro (fun hc4 => ?_) (fun hc4 => ?_)
    · refine sX11_within_18 ?_
      exact ps_weak (kJ6 _ (if_pos (hc4)).symm) trivial
    · exact ps_weak (kJ6 _ (if_neg (hc4)).symm) trivial
  · exact ps_weak (kJ3 _ (if_neg (hc1)).symm) trivial
noncomputable def jX5_near_53 (g : ps_G) (x0 : Nat) (x3 : Int32) (k0 : Int32) : Option (Int32) := Option.bind (q_fR 5 7 g x0) fun v11 => Option.bind (v11) fun a12 => Option.bind (q_fI 5 8 g x0) fun v13 => Option.bind (q_aI g a12 ((k0 * v13) + x3)) fun v14 => some v14
theorem pjX5_near_53 {d : Nat} {Q : ps_Rs → ps_G → Prop} {g : ps_G} {x0 : Nat} {x3 : Int32} {k0 : Int32} {r : Int32} (h : jX5_near_53 g x0 x3 k0 = some r) (hk : Q (.inl (some (.int r))) g) : ps_At mX5_near d 53 [(0, .ref x0), (3, .int x3)] [.int k0] g Q := by
  unfold jX5_near_53 at h
  refine sX5_near_53 ?_
  replace h := q_be h
  obtain ⟨v11, hv, h⟩ := h
  replace hv := q_fR_e hv
  obtain ⟨_, cv11, dv11⟩ := hv
  replace h := q_be h
  obtain ⟨a12, ea12, h⟩ := h
  subst ea12
  replace h := q_be h
  obtain ⟨v13, hv, h⟩ := h
  replace hv := q_fI_e hv
  obtain ⟨_, cv13, dv13⟩ := hv
  replace h := q_be h
  obtain ⟨v14, hv, h⟩ := h
  replace hv := q_aI_e hv
  obtain ⟨_, _, cv14, iv14, yv14⟩ := hv
  cases h
  exact ⟨by decide, ⟨some _, rfl⟩, _, _, cv11, dv11, ⟨some _, rfl⟩, _, _, cv13, dv13, _, _, cv14, iv14, _, yv14, rfl, hk⟩
noncomputable def jX5_near_26 (g : ps_G) (x0 : Nat) (x2 : Int32) (k0 : Int32) : Option (Int32) := if 0 ≤ x2 then (Option.bind (q_fI 5 9 g x0) fun v8 => if x2 < v8 then (jX5_near_53 g x0 k0 x2) else (Option.bind (q_fI 5 9 g x0) fun v15 => jX5_near_53 g x0 k0 (v15 - (1 : Int32)))) else (jX5_near_53 g x0 k0 (0 : Int32))
theorem pjX5_near_26 {d : Nat} {Q : ps_Rs → ps_G → Prop} {g : ps_G} {x0 : Nat} {x2 : Int32} {k0 : Int32} {r : Int32} (h : jX5_near_26 g x0 x2 k0 = some r) (hk : Q (.inl (some (.int r))) g) : ps_At mX5_near d 26 [(0, .ref x0), (2, .int x2)] [.int k0] g Q := by
  unfold jX5_near_26 at h
  refine sX5_near_26 ?_
  refine ⟨by decide, ?_⟩
  refine And.intro (fun hc6 => ?_) (fun hc6 => ?_)
  · replace h := q_ifp (hc6) h
    refine sX5_near_35 ?_
    replace h := q_be h
    obtain ⟨v8, hv, h⟩ := h
    replace hv := q_fI_e hv
    obtain ⟨_, cv8, dv8⟩ := hv
    refine ⟨⟨some _, rfl⟩, _, _, cv8, dv8, ?_⟩
    refine And.intro (fun hc9 => ?_) (fun hc9 => ?_)
    · replace h := q_ifp (hc9) h
      refine sX5_near_52 ?_
      exact ps_weak (pjX5_near_53 h hk) ⟨rfl, rfl, trivial⟩
    · replace h := q_ifn (hc9) h
      replace h := q_be h
      obtain ⟨v15, hv, h⟩ := h
      replace hv := q_fI_e hv
      obtain ⟨_, cv15, dv15⟩ := hv
      refine ⟨⟨some _, rfl⟩, _, _, cv15, dv15, ?_⟩
      exact ps_weak (pjX5_near_53 h hk) ⟨rfl, rfl, trivial⟩
  · replace h := q_ifn (hc6) h
    exact ps_weak (pjX5_near_53 h hk) ⟨rfl, rfl, trivial⟩
noncomputable def fX5_near (g : ps_G) (x0 : Nat) (x1 : Int32) (x2 : Int32) : Option (Int32) := if 0 ≤ x1 then (Option.bind (q_fI 5 8 g x0) fun v3 => if x1 < v3 then (jX5_near_26 g x0 x2 x1) else (Option.bind (q_fI 5 8 g x0) fun v20 => jX5_near_26 g x0 x2 (v20 - (1 : Int32)))) else (jX5_near_26 g x0 x2 (0 : Int32))
theorem rX5_near {d : Nat} {Q : ps_Rs → ps_G → Prop} {g : ps_G} {x0 : Nat} {x1 : Int32} {x2 : Int32} {r : Int32} (h : fX5_near g x0 x1 x2 = some r) (hk : Q (.inl (some (.int r))) g) : ps_Ok mX5_near d [.ref x0, .int x1, .int x2] g Q := by
  unfold fX5_near at h
  refine sX5_near_0 ?_
  refine And.intro (fun hc1 => ?_) (fun hc1 => ?_)
  · replace h := q_ifp (hc1) h
    refine sX5_near_8 ?_
    replace h := q_be h
    obtain ⟨v3, hv, h⟩ := h
    replace hv := q_fI_e hv
    obtain ⟨_, cv3, dv3⟩ := hv
    refine ⟨⟨some _, rfl⟩, _, _, cv3, dv3, ?_⟩
    refine And.intro (fun hc4 => ?_) (fun hc4 => ?_)
    · replace h := q_ifp (hc4) h
      refine sX5_near_25 ?_
      exact ps_weak (pjX5_near_26 h hk) ⟨rfl, rfl, trivial⟩
    · replace h := q_ifn (hc4) h
      replace h := q_be h
      obtain ⟨v20, hv, h⟩ := h
      replace hv := q_fI_e hv
      obtain ⟨_, cv20, dv20⟩ := hv
      refine ⟨⟨some _, rfl⟩, _, _, cv20, dv20, ?_⟩
      exact ps_weak (pjX5_near_26 h hk) ⟨rfl, rfl, trivial⟩
  · replace h := q_ifn (hc1) h
    exact ps_weak (pjX5_near_26 h hk) ⟨rfl, rfl, trivial⟩
noncomputable def fX11_mean (g : ps_G) (x0 : Int32) (x1 : Int32) (x2 : Int32) (x3 : Int32) (x4 : Int32) : Option (Int32) := if ¬ (x1 ≤ 0) ∧ (0 < x0) then (Option.bind (q_div (x1 + (x0 / (2 : Int32))) x0) fun v3 => Option.bind (q_div (x2 + (x1 / (2 : Int32))) x1) fun v4 => Option.bind (q_div (x3 + (x1 / (2 : Int32))) x1) fun v5 => Option.bind (q_div (x4 + (x1 / (2 : Int32))) x1) fun v6 => some ((((q_shl v3 (24 : Int32)) ||| (q_shl v4 (16 : Int32))) ||| (q_shl v5 (8 : Int32))) ||| v6)) else (some (0 : Int32))
theorem rX11_mean {d : Nat} {Q : ps_Rs → ps_G → Prop} {g : ps_G} {x0 : Int32} {x1 : Int32} {x2 : Int32} {x3 : Int32} {x4 : Int32} {r : Int32} (h : fX11_mean g x0 x1 x2 x3 x4 = some r) (hk : Q (.inl (some (.int r))) g) : ps_Ok mX11_mean d [.int x0, .int x1, .int x2, .int x3, .int x4] g Q := by
  unfold fX11_mean at h
  refine sX11_mean_0 ?_
  have kF8 : (some (0 : Int32)) = some r → ps_At mX11_mean d 8 [] [] g Q := fun h => by
    refine sX11_mean_8 ?_
    cases h
    exact ⟨rfl, hk⟩
  refine And.intro (fun hc1 => ?_) (fun hc1 => ?_)
  · exact ps_weak (kF8 (q_ifn (fun z => z.1 hc1) h)) trivial
  · refine And.intro (fun hc2 => ?_) (fun hc2 => ?_)
    · replace h := q_ifp (⟨hc1, hc2⟩) h
      refine sX11_mean_10 ?_
      replace h := q_be h
      obtain ⟨v3, hv, h⟩ := h
      replace hv := q_div_e hv
      obtain ⟨zv3, yv3⟩ := hv
      replace h := q_be h
      obtain ⟨v4, hv, h⟩ := h
      replace hv := q_div_e hv
      obtain ⟨zv4, yv4⟩ := hv
      replace h := q_be h
      obtain ⟨v5, hv, h⟩ := h
      replace hv := q_div_e hv
      obtain ⟨zv5, yv5⟩ := hv
      replace h := q_be h
      obtain ⟨v6, hv, h⟩ := h
      replace hv := q_div_e hv
      obtain ⟨zv6, yv6⟩ := hv
      cases h
      exact ⟨by decide, _, rfl, by decide, by decide, _, rfl, zv3, _, yv3, zv4, _, yv4, zv5, _, yv5, zv6, _, yv6, rfl, hk⟩
    · exact ps_weak (kF8 (q_ifn (fun z => hc2 z.2) h)) trivial
noncomputable def bX5_soft_30 (g : ps_G) (x0 : Nat) (x1 : Int32) (x2 : Int32) (x3 : Int32) (x8 : Int32) (x4 : Int32) (x5 : Int32) (x6 : Int32) (x7 : Int32) (x9 : Int32) : Option ((Int32 × Int32 × Int32 × Int32 × Int32) ⊕ (Int32 × Int32 × Int32 × Int32)) := if (x1 + x3) < x9 then (some (.inr (x4, x5, x6, x7))) else (Option.bind (q_ob 5 g x0) fun u4 => Option.bind (fX5_near g x0 x9 x8) fun v5 => some (.inl (x4 + (q_ush v5 (24 : Int32)), x5 + ((q_ush v5 (24 : Int32)) * ((q_shr v5 (16 : Int32)) &&& (255 : Int32))), x6 + ((q_ush v5 (24 : Int32)) * ((q_shr v5 (8 : Int32)) &&& (255 : Int32))), x7 + ((q_ush v5 (24 : Int32)) * (v5 &&& (255 : Int32))), x9 + (1 : Int32))))
theorem pbX5_soft_30 {d : Nat} {Q : ps_Rs → ps_G → Prop} {g : ps_G} {x0 : Nat} {x1 : Int32} {x2 : Int32} {x3 : Int32} {x8 : Int32} {x4 : Int32} {x5 : Int32} {x6 : Int32} {x7 : Int32} {x9 : Int32} {x : (Int32 × Int32 × Int32 × Int32 × Int32) ⊕ (Int32 × Int32 × Int32 × Int32)} (h : bX5_soft_30 g x0 x1 x2 x3 x8 x4 x5 x6 x7 x9 = some x) (hh : ∀ s' : Int32 × Int32 × Int32 × Int32 × Int32, x = .inl s' → ps_At mX5_soft (d + 1) 30 [(0, .ref x0), (1, .int x1), (2, .int x2), (3, .int x3), (4, .int s'.1), (5, .int s'.2.1), (6, .int s'.2.2.1), (7, .int s'.2.2.2.1), (8, .int x8), (9, .int s'.2.2.2.2)] [] g Q) (he : ∀ r' : Int32 × Int32 × Int32 × Int32, x = .inr r' → ps_At mX5_soft (d + 1) 116 [(0, .ref x0), (1, .int x1), (2, .int x2), (3, .int x3), (4, .int r'.1), (5, .int r'.2.1), (6, .int r'.2.2.1), (7, .int r'.2.2.2), (8, .int x8)] [] g Q) : ps_At mX5_soft (d + 1) 30 [(0, .ref x0), (1, .int x1), (2, .int x2), (3, .int x3), (4, .int x4), (5, .int x5), (6, .int x6), (7, .int x7), (8, .int x8), (9, .int x9)] [] g Q := by
  unfold bX5_soft_30 at h
  refine sX5_soft_30 ?_
  refine And.intro (fun hc2 => ?_) (fun hc2 => ?_)
  · replace h := q_ifp (hc2) h
    exact ps_weak (he (x4, x5, x6, x7) (Option.some.inj h).symm) ⟨rfl, rfl, rfl, rfl, rfl, rfl, rfl, rfl, rfl, trivial⟩
  · replace h := q_ifn (hc2) h
    replace h := q_be h
    obtain ⟨u4, hv, h⟩ := h
    replace hv := q_ob_e hv
    obtain ⟨_, cu4⟩ := hv
    replace h := q_be h
    obtain ⟨v5, hv, h⟩ := h
    refine ⟨⟨some _, rfl⟩, ⟨_, cu4⟩, ?_⟩
    refine rX5_near hv ?_
    refine ⟨by decide, by decide, by decide, by decide, by decide, by decide, by decide, ?_⟩
    exact ps_weak (hh (x4 + (q_ush v5 (24 : Int32)), x5 + ((q_ush v5 (24 : Int32)) * ((q_shr v5 (16 : Int32)) &&& (255 : Int32))), x6 + ((q_ush v5 (24 : Int32)) * ((q_shr v5 (8 : Int32)) &&& (255 : Int32))), x7 + ((q_ush v5 (24 : Int32)) * (v5 &&& (255 : Int32))), x9 + (1 : Int32)) (Option.some.inj h).symm) ⟨rfl, rfl, rfl, rfl, rfl, rfl, rfl, rfl, rfl, rfl, trivial⟩
noncomputable def bX5_soft_17 (g : ps_G) (x0 : Nat) (x1 : Int32) (x2 : Int32) (x3 : Int32) (x4 : Int32) (x5 : Int32) (x6 : Int32) (x7 : Int32) (x8 : Int32) : Option ((Int32 × Int32 × Int32 × Int32 × Int32) ⊕ (Int32 × Int32 × Int32 × Int32)) := if (x2 + x3) < x8 then (some (.inr (x4, x5, x6, x7))) else (Option.bind (q_lp (fun s => bX5_soft_30 g x0 x1 x2 x3 x8 s.1 s.2.1 s.2.2.1 s.2.2.2.1 s.2.2.2.2) (x4, x5, x6, x7, x1 - x3)) fun s8 => some (.inl (s8.1, s8.2.1, s8.2.2.1, s8.2.2.2, x8 + (1 : Int32))))
theorem pbX5_soft_17 {d : Nat} {Q : ps_Rs → ps_G → Prop} {g : ps_G} {x0 : Nat} {x1 : Int32} {x2 : Int32} {x3 : Int32} {x4 : Int32} {x5 : Int32} {x6 : Int32} {x7 : Int32} {x8 : Int32} {x : (Int32 × Int32 × Int32 × Int32 × Int32) ⊕ (Int32 × Int32 × Int32 × Int32)} (h : bX5_soft_17 g x0 x1 x2 x3 x4 x5 x6 x7 x8 = some x) (hh : ∀ s' : Int32 × Int32 × Int32 × Int32 × Int32, x = .inl s' → ps_At mX5_soft (d + 1) 17 [(0, .ref x0), (1, .int x1), (2, .int x2), (3, .int x3), (4, .int s'.1), (5, .int s'.2.1), (6, .int s'.2.2.1), (7, .int s'.2.2.2.1), (8, .int s'.2.2.2.2)] [] g Q) (he : ∀ r' : Int32 × Int32 × Int32 × Int32, x = .inr r' → ps_At mX5_soft (d + 1) 122 [(3, .int x3), (4, .int r'.1), (5, .int r'.2.1), (6, .int r'.2.2.1), (7, .int r'.2.2.2)] [] g Q) : ps_At mX5_soft (d + 1) 17 [(0, .ref x0), (1, .int x1), (2, .int x2), (3, .int x3), (4, .int x4), (5, .int x5), (6, .int x6), (7, .int x7), (8, .int x8)] [] g Q := by
  unfold bX5_soft_17 at h
  refine sX5_soft_17 ?_
  refine And.intro (fun hc1 => ?_) (fun hc1 => ?_)
  · replace h := q_ifp (hc1) h
    exact ps_weak (he (x4, x5, x6, x7) (Option.some.inj h).symm) ⟨rfl, rfl, rfl, rfl, rfl, trivial⟩
  · replace h := q_ifn (hc1) h
    refine ⟨by decide, ?_⟩
    replace h := q_be h
    obtain ⟨s8, hl, h⟩ := h
    refine ps_weak (q_lp_ok hl (fun s => ps_At mX5_soft (d + 1) 30 [(0, .ref x0), (1, .int x1), (2, .int x2), (3, .int x3), (4, .int s.1), (5, .int s.2.1), (6, .int s.2.2.1), (7, .int s.2.2.2.1), (8, .int x8), (9, .int s.2.2.2.2)] [] g Q) (fun r => ps_At mX5_soft (d + 1) 116 [(0, .ref x0), (1, .int x1), (2, .int x2), (3, .int x3), (4, .int r.1), (5, .int r.2.1), (6, .int r.2.2.1), (7, .int r.2.2.2), (8, .int x8)] [] g Q) (fun s x hb hh he => pbX5_soft_30 hb hh he) ?_) ⟨rfl, rfl, rfl, rfl, rfl, rfl, rfl, rfl, rfl, rfl, trivial⟩
    refine (?_ : ps_At mX5_soft (d + 1) 116 [(0, .ref x0), (1, .int x1), (2, .int x2), (3, .int x3), (4, .int s8.1), (5, .int s8.2.1), (6, .int s8.2.2.1), (7, .int s8.2.2.2), (8, .int x8)] [] g Q)
    refine sX5_soft_116 ?_
    refine ⟨by decide, ?_⟩
    exact ps_weak (hh (s8.1, s8.2.1, s8.2.2.1, s8.2.2.2, x8 + (1 : Int32)) (Option.some.inj h).symm) ⟨rfl, rfl, rfl, rfl, rfl, rfl, rfl, rfl, rfl, trivial⟩
noncomputable def fX5_soft (g : ps_G) (x0 : Nat) (x1 : Int32) (x2 : Int32) (x3 : Int32) : Option (Int32) := Option.bind (q_lp (fun s => bX5_soft_17 g x0 x1 x2 x3 s.1 s.2.1 s.2.2.1 s.2.2.2.1 s.2.2.2.2) ((0 : Int32), (0 : Int32), (0 : Int32), (0 : Int32), x2 - x3)) fun s11 => Option.bind (fX11_mean g ((((2 : Int32) * x3) + (1 : Int32)) * (((2 : Int32) * x3) + (1 : Int32))) s11.1 s11.2.1 s11.2.2.1 s11.2.2.2) fun v12 => some v12
theorem rX5_soft {d : Nat} {Q : ps_Rs → ps_G → Prop} {g : ps_G} {x0 : Nat} {x1 : Int32} {x2 : Int32} {x3 : Int32} {r : Int32} (h : fX5_soft g x0 x1 x2 x3 = some r) (hk : Q (.inl (some (.int r))) g) : ps_Ok mX5_soft (d + 1) [.ref x0, .int x1, .int x2, .int x3] g Q := by
  unfold fX5_soft at h
  refine sX5_soft_0 ?_
  refine ⟨by decide, by decide, by decide, by decide, by decide, ?_⟩
  replace h := q_be h
  obtain ⟨s11, hl, h⟩ := h
  refine ps_weak (q_lp_ok hl (fun s => ps_At mX5_soft (d + 1) 17 [(0, .ref x0), (1, .int x1), (2, .int x2), (3, .int x3), (4, .int s.1), (5, .int s.2.1), (6, .int s.2.2.1), (7, .int s.2.2.2.1), (8, .int s.2.2.2.2)] [] g Q) (fun r => ps_At mX5_soft (d + 1) 122 [(3, .int x3), (4, .int r.1), (5, .int r.2.1), (6, .int r.2.2.1), (7, .int r.2.2.2)] [] g Q) (fun s x hb hh he => pbX5_soft_17 hb hh he) ?_) ⟨rfl, rfl, rfl, rfl, rfl, rfl, rfl, rfl, rfl, trivial⟩
  refine (?_ : ps_At mX5_soft (d + 1) 122 [(3, .int x3), (4, .int s11.1), (5, .int s11.2.1), (6, .int s11.2.2.1), (7, .int s11.2.2.2)] [] g Q)
  refine sX5_soft_122 ?_
  replace h := q_be h
  obtain ⟨v12, hv, h⟩ := h
  refine rX11_mean hv ?_
  cases h
  exact ⟨rfl, hk⟩
def fX11_clip (x0 : Int32) : Int32 := (if 0 ≤ x0 then (if x0 ≤ (255 : Int32) then x0 else (255 : Int32)) else (0 : Int32))
theorem rX11_clip {d : Nat} {Q : ps_Rs → ps_G → Prop} {g : ps_G} {x0 : Int32} {r : Int32} (h : fX11_clip x0 = r) (hk : Q (.inl (some (.int r))) g) : ps_Ok mX11_clip d [.int x0] g Q := by
  unfold fX11_clip at h
  refine sX11_clip_0 ?_
  have kJ3 : ∀ w2 : Int32, w2 = (if 0 ≤ x0 then (if x0 ≤ (255 : Int32) then x0 else (255 : Int32)) else (0 : Int32)) → ps_At mX11_clip d 22 [] [.int w2] g Q := by
    rintro _ rfl
    refine sX11_clip_22 ?_
    subst h
    exact ⟨rfl, hk⟩
  refine And.intro (fun hc1 => ?_) (fun hc1 => ?_)
  · refine sX11_clip_8 ?_
    have kJ6 : ∀ w5 : Int32, w5 = (if x0 ≤ (255 : Int32) then x0 else (255 : Int32)) → ps_At mX11_clip d 22 [] [.int w5] g Q := by
      rintro _ rfl
      exact ps_weak (kJ3 _ (if_pos (hc1)).symm) trivial
    refine And.intro (fun hc4 => ?_) (fun hc4 => ?_)
    · refine sX11_clip_21 ?_
      exact ps_weak (kJ6 _ (if_pos (hc4)).symm) trivial
    · exact ps_weak (kJ6 _ (if_neg (hc4)).symm) trivial
  · exact ps_weak (kJ3 _ (if_neg (hc1)).symm) trivial
noncomputable def bX5_sharp_9 (g : ps_G) (x0 : Int32) (x1 : Int32) (x2 : Int32) (x3 : Int32) (x4 : Int32) : Option ((Int32 × Int32) ⊕ (Int32)) := if x4 < 0 then (some (.inr x3)) else (some (.inl (x3 ||| (q_shl (fX11_clip (((q_shr x0 x4) &&& (255 : Int32)) + (q_shr ((((q_shr x0 x4) &&& (255 : Int32)) - ((q_shr x1 x4) &&& (255 : Int32))) * x2) (6 : Int32)))) x4), x4 + (-8 : Int32))))
theorem pbX5_sharp_9 {d : Nat} {Q : ps_Rs → ps_G → Prop} {g : ps_G} {x0 : Int32} {x1 : Int32} {x2 : Int32} {x3 : Int32} {x4 : Int32} {x : (Int32 × Int32) ⊕ (Int32)} (h : bX5_sharp_9 g x0 x1 x2 x3 x4 = some x) (hh : ∀ s' : Int32 × Int32, x = .inl s' → ps_At mX5_sharp (d + 1) 9 [(0, .int x0), (1, .int x1), (2, .int x2), (3, .int s'.1), (4, .int s'.2)] [] g Q) (he : ∀ r' : Int32, x = .inr r' → ps_At mX5_sharp (d + 1) 58 [(3, .int r')] [] g Q) : ps_At mX5_sharp (d + 1) 9 [(0, .int x0), (1, .int x1), (2, .int x2), (3, .int x3), (4, .int x4)] [] g Q := by
  unfold bX5_sharp_9 at h
  refine sX5_sharp_9 ?_
  refine And.intro (fun hc1 => ?_) (fun hc1 => ?_)
  · replace h := q_ifp (hc1) h
    exact ps_weak (he x3 (Option.some.inj h).symm) ⟨rfl, trivial⟩
  · replace h := q_ifn (hc1) h
    refine ⟨by decide, ?_⟩
    refine rX11_clip rfl ?_
    refine ⟨by decide, by decide, ?_⟩
    exact ps_weak (hh (x3 ||| (q_shl (fX11_clip (((q_shr x0 x4) &&& (255 : Int32)) + (q_shr ((((q_shr x0 x4) &&& (255 : Int32)) - ((q_shr x1 x4) &&& (255 : Int32))) * x2) (6 : Int32)))) x4), x4 + (-8 : Int32)) (Option.some.inj h).symm) ⟨rfl, rfl, rfl, rfl, rfl, trivial⟩
noncomputable def fX5_sharp (g : ps_G) (x0 : Int32) (x1 : Int32) (x2 : Int32) : Option (Int32) := Option.bind (q_lp (fun s => bX5_sharp_9 g x0 x1 x2 s.1 s.2) (x0 &&& (-16777216 : Int32), (16 : Int32))) fun s4 => some s4
theorem rX5_sharp {d : Nat} {Q : ps_Rs → ps_G → Prop} {g : ps_G} {x0 : Int32} {x1 : Int32} {x2 : Int32} {r : Int32} (h : fX5_sharp g x0 x1 x2 = some r) (hk : Q (.inl (some (.int r))) g) : ps_Ok mX5_sharp (d + 1) [.int x0, .int x1, .int x2] g Q := by
  unfold fX5_sharp at h
  refine sX5_sharp_0 ?_
  refine ⟨by decide, by decide, ?_⟩
  replace h := q_be h
  obtain ⟨s4, hl, h⟩ := h
  refine ps_weak (q_lp_ok hl (fun s => ps_At mX5_sharp (d + 1) 9 [(0, .int x0), (1, .int x1), (2, .int x2), (3, .int s.1), (4, .int s.2)] [] g Q) (fun r => ps_At mX5_sharp (d + 1) 58 [(3, .int r)] [] g Q) (fun s x hb hh he => pbX5_sharp_9 hb hh he) ?_) ⟨rfl, rfl, rfl, rfl, rfl, trivial⟩
  refine (?_ : ps_At mX5_sharp (d + 1) 58 [(3, .int s4)] [] g Q)
  refine sX5_sharp_58 ?_
  cases h
  exact ⟨rfl, hk⟩
noncomputable def bX5_middle_54 (x0 : Nat) (x1 : Int32) (x2 : Int32) (x3 : Int32) (x4 : Int32) (x5 : Int32) (x6 : Int32) (x7 : Int32) (g : ps_G) : Option ((Int32 × ps_G) ⊕ (Int32 × ps_G)) := if x7 ≤ 0 then (some (.inr (x7, g))) else (Option.bind (q_fR 5 6 g x0) fun v8 => Option.bind (v8) fun a9 => Option.bind (q_aI g a9 (x7 - (1 : Int32))) fun v10 => if v10 ≤ x6 then (some (.inr (x7, g))) else (Option.bind (q_fR 5 6 g x0) fun v13 => Option.bind (v13) fun a14 => Option.bind (q_fR 5 6 g x0) fun v15 => Option.bind (v15) fun a16 => Option.bind (q_aI g a16 (x7 - (1 : Int32))) fun v17 => Option.bind (q_wI g a14 x7 v17) fun g18 => some (.inl (x7 + (-1 : Int32), g18))))
theorem pbX5_middle_54 {d : Nat} {Q : ps_Rs → ps_G → Prop}  {x0 : Nat} {x1 : Int32} {x2 : Int32} {x3 : Int32} {x4 : Int32} {x5 : Int32} {x6 : Int32} {x7 : Int32} {g : ps_G} {x : (Int32 × ps_G) ⊕ (Int32 × ps_G)} (h : bX5_middle_54 x0 x1 x2 x3 x4 x5 x6 x7 g = some x) (hh : ∀ s' : Int32 × ps_G, x = .inl s' → ps_At mX5_middle (d + 1) 54 [(0, .ref x0), (1, .int x1), (2, .int x2), (3, .int x3), (4, .int x4), (5, .int x5), (6, .int x6), (7, .int s'.1)] [] s'.2 Q) (he : ∀ r' : Int32 × ps_G, x = .inr r' → ps_At mX5_middle (d + 1) 95 [(0, .ref x0), (1, .int x1), (2, .int x2), (3, .int x3), (4, .int x4), (5, .int x5), (6, .int x6), (7, .int r'.1)] [] r'.2 Q) : ps_At mX5_middle (d + 1) 54 [(0, .ref x0), (1, .int x1), (2, .int x2), (3, .int x3), (4, .int x4), (5, .int x5), (6, .int x6), (7, .int x7)] [] g Q := by
  unfold bX5_middle_54 at h
  refine sX5_middle_54 ?_
  refine And.intro (fun hc6 => ?_) (fun hc6 => ?_)
  · replace h := q_ifp (hc6) h
    exact ps_weak (he (x7, g) (Option.some.inj h).symm) ⟨rfl, rfl, rfl, rfl, rfl, rfl, rfl, rfl, trivial⟩
  · replace h := q_ifn (hc6) h
    replace h := q_be h
    obtain ⟨v8, hv, h⟩ := h
    replace hv := q_fR_e hv
    obtain ⟨_, cv8, dv8⟩ := hv
    replace h := q_be h
    obtain ⟨a9, ea9, h⟩ := h
    subst ea9
    replace h := q_be h
    obtain ⟨v10, hv, h⟩ := h
    replace hv := q_aI_e hv
    obtain ⟨_, _, cv10, iv10, yv10⟩ := hv
    refine ⟨⟨some _, rfl⟩, _, _, cv8, dv8, _, _, cv10, iv10, _, yv10, ?_⟩
    refine And.intro (fun hc11 => ?_) (fun hc11 => ?_)
    · replace h := q_ifp (hc11) h
      exact ps_weak (he (x7, g) (Option.some.inj h).symm) ⟨rfl, rfl, rfl, rfl, rfl, rfl, rfl, rfl, trivial⟩
    · replace h := q_ifn (hc11) h
      replace h := q_be h
      obtain ⟨v13, hv, h⟩ := h
      replace hv := q_fR_e hv
      obtain ⟨_, cv13, dv13⟩ := hv
      replace h := q_be h
      obtain ⟨a14, ea14, h⟩ := h
      subst ea14
      replace h := q_be h
      obtain ⟨v15, hv, h⟩ := h
      replace hv := q_fR_e hv
      obtain ⟨_, cv15, dv15⟩ := hv
      replace h := q_be h
      obtain ⟨a16, ea16, h⟩ := h
      subst ea16
      replace h := q_be h
      obtain ⟨v17, hv, h⟩ := h
      replace hv := q_aI_e hv
      obtain ⟨_, _, cv17, iv17, yv17⟩ := hv
      replace h := q_be h
      obtain ⟨g18, hv, h⟩ := h
      replace hv := q_wI_e hv
      obtain ⟨_, _, cg18, pg18, ig18, yg18⟩ := hv
      refine ⟨⟨some _, rfl⟩, _, _, cv13, dv13, ⟨some _, rfl⟩, _, _, cv15, dv15, _, _, cv17, iv17, _, yv17, _, _, cg18, pg18, ig18, _, yg18, by decide, ?_⟩
      exact ps_weak (hh (x7 + (-1 : Int32), g18) (Option.some.inj h).symm) ⟨rfl, rfl, rfl, rfl, rfl, rfl, rfl, rfl, trivial⟩
noncomputable def jX5_middle_95_14 (g : ps_G) (x0 : Nat) (x1 : Int32) (x2 : Int32) (x3 : Int32) (x4 : Int32) (x5 : Int32) (x6 : Int32) (x7 : Int32) : Option ((Int32 × ps_G) ⊕ (ps_G)) := Option.bind (q_fR 5 6 g x0) fun v24 => Option.bind (v24) fun a25 => Option.bind (q_wI g a25 x7 x6) fun g26 => some (.inl (x5 + (1 : Int32), g26))
theorem pjX5_middle_95_14 {d : Nat} {Q : ps_Rs → ps_G → Prop} {g : ps_G} {x0 : Nat} {x1 : Int32} {x2 : Int32} {x3 : Int32} {x4 : Int32} {x5 : Int32} {x6 : Int32} {x7 : Int32} {x : (Int32 × ps_G) ⊕ (ps_G)} (h : jX5_middle_95_14 g x0 x1 x2 x3 x4 x5 x6 x7 = some x) (hh : ∀ s' : Int32 × ps_G, x = .inl s' → ps_At mX5_middle (d + 1) 14 [(0, .ref x0), (1, .int x1), (2, .int x2), (3, .int x3), (4, .int x4), (5, .int s'.1)] [] s'.2 Q) (he : ∀ r' : ps_G, x = .inr r' → ps_At mX5_middle (d + 1) 110 [(0, .ref x0), (1, .int x1), (2, .int x2), (3, .int x3), (4, .int x4)] [] r' Q) : ps_At mX5_middle (d + 1) 95 [(0, .ref x0), (1, .int x1), (2, .int x2), (3, .int x3), (4, .int x4), (5, .int x5), (6, .int x6), (7, .int x7)] [] g Q := by
  unfold jX5_middle_95_14 at h
  refine sX5_middle_95 ?_
  replace h := q_be h
  obtain ⟨v24, hv, h⟩ := h
  replace hv := q_fR_e hv
  obtain ⟨_, cv24, dv24⟩ := hv
  replace h := q_be h
  obtain ⟨a25, ea25, h⟩ := h
  subst ea25
  replace h := q_be h
  obtain ⟨g26, hv, h⟩ := h
  replace hv := q_wI_e hv
  obtain ⟨_, _, cg26, pg26, ig26, yg26⟩ := hv
  refine ⟨⟨some _, rfl⟩, _, _, cv24, dv24, _, _, cg26, pg26, ig26, _, yg26, by decide, ?_⟩
  exact ps_weak (hh (x5 + (1 : Int32), g26) (Option.some.inj h).symm) ⟨rfl, rfl, rfl, rfl, rfl, rfl, trivial⟩
noncomputable def bX5_middle_14 (x0 : Nat) (x1 : Int32) (x2 : Int32) (x3 : Int32) (x4 : Int32) (x5 : Int32) (g : ps_G) : Option ((Int32 × ps_G) ⊕ (ps_G)) := if (9 : Int32) ≤ x5 then (some (.inr g)) else (Option.bind (q_ob 5 g x0) fun u4 => Option.bind (fX5_near g x0 ((x1 + (q_rem x5 (3 : Int32))) - (1 : Int32)) ((x2 + (x5 / (3 : Int32))) - (1 : Int32))) fun v5 => Option.bind (q_lp (fun s => bX5_middle_54 x0 x1 x2 x3 x4 x5 ((q_shr v5 x4) &&& (255 : Int32)) s.1 s.2) (x5, g)) fun s23 => jX5_middle_95_14 s23.2 x0 x1 x2 x3 x4 x5 ((q_shr v5 x4) &&& (255 : Int32)) s23.1)
theorem pbX5_middle_14 {d : Nat} {Q : ps_Rs → ps_G → Prop}  {x0 : Nat} {x1 : Int32} {x2 : Int32} {x3 : Int32} {x4 : Int32} {x5 : Int32} {g : ps_G} {x : (Int32 × ps_G) ⊕ (ps_G)} (h : bX5_middle_14 x0 x1 x2 x3 x4 x5 g = some x) (hh : ∀ s' : Int32 × ps_G, x = .inl s' → ps_At mX5_middle (d + 1) 14 [(0, .ref x0), (1, .int x1), (2, .int x2), (3, .int x3), (4, .int x4), (5, .int s'.1)] [] s'.2 Q) (he : ∀ r' : ps_G, x = .inr r' → ps_At mX5_middle (d + 1) 110 [(0, .ref x0), (1, .int x1), (2, .int x2), (3, .int x3), (4, .int x4)] [] r' Q) : ps_At mX5_middle (d + 1) 14 [(0, .ref x0), (1, .int x1), (2, .int x2), (3, .int x3), (4, .int x4), (5, .int x5)] [] g Q := by
  unfold bX5_middle_14 at h
  refine sX5_middle_14 ?_
  refine And.intro (fun hc2 => ?_) (fun hc2 => ?_)
  · replace h := q_ifp (hc2) h
    exact ps_weak (he g (Option.some.inj h).symm) ⟨rfl, rfl, rfl, rfl, rfl, trivial⟩
  · replace h := q_ifn (hc2) h
    replace h := q_be h
    obtain ⟨u4, hv, h⟩ := h
    replace hv := q_ob_e hv
    obtain ⟨_, cu4⟩ := hv
    replace h := q_be h
    obtain ⟨v5, hv, h⟩ := h
    refine ⟨⟨some _, rfl⟩, by decide, _, rfl, by decide, _, rfl, ⟨_, cu4⟩, ?_⟩
    refine rX5_near hv ?_
    refine ⟨by decide, by decide, ?_⟩
    replace h := q_be h
    obtain ⟨s23, hl, h⟩ := h
    refine ps_weak (q_lp_ok hl (fun s => ps_At mX5_middle (d + 1) 54 [(0, .ref x0), (1, .int x1), (2, .int x2), (3, .int x3), (4, .int x4), (5, .int x5), (6, .int ((q_shr v5 x4) &&& (255 : Int32))), (7, .int s.1)] [] s.2 Q) (fun r => ps_At mX5_middle (d + 1) 95 [(0, .ref x0), (1, .int x1), (2, .int x2), (3, .int x3), (4, .int x4), (5, .int x5), (6, .int ((q_shr v5 x4) &&& (255 : Int32))), (7, .int r.1)] [] r.2 Q) (fun s x hb hh he => pbX5_middle_54 hb hh he) ?_) ⟨rfl, rfl, rfl, rfl, rfl, rfl, rfl, rfl, trivial⟩
    refine (?_ : ps_At mX5_middle (d + 1) 95 [(0, .ref x0), (1, .int x1), (2, .int x2), (3, .int x3), (4, .int x4), (5, .int x5), (6, .int ((q_shr v5 x4) &&& (255 : Int32))), (7, .int s23.1)] [] s23.2 Q)
    exact ps_weak (pjX5_middle_95_14 h hh he) ⟨rfl, rfl, rfl, rfl, rfl, rfl, rfl, rfl, trivial⟩
noncomputable def bX5_middle_6 (x0 : Nat) (x1 : Int32) (x2 : Int32) (x3 : Int32) (x4 : Int32) (g : ps_G) : Option ((Int32 × Int32 × ps_G) ⊕ (Int32 × ps_G)) := if x4 < 0 then (some (.inr (x3, g))) else (Option.bind (q_lp (fun s => bX5_middle_14 x0 x1 x2 x3 x4 s.1 s.2) ((0 : Int32), g)) fun s29 => Option.bind (q_fR 5 6 s29 x0) fun v30 => Option.bind (v30) fun a31 => Option.bind (q_aI s29 a31 (4 : Int32)) fun v32 => some (.inl (x3 ||| (q_shl v32 x4), x4 + (-8 : Int32), s29)))
theorem pbX5_middle_6 {d : Nat} {Q : ps_Rs → ps_G → Prop}  {x0 : Nat} {x1 : Int32} {x2 : Int32} {x3 : Int32} {x4 : Int32} {g : ps_G} {x : (Int32 × Int32 × ps_G) ⊕ (Int32 × ps_G)} (h : bX5_middle_6 x0 x1 x2 x3 x4 g = some x) (hh : ∀ s' : Int32 × Int32 × ps_G, x = .inl s' → ps_At mX5_middle (d + 1) 6 [(0, .ref x0), (1, .int x1), (2, .int x2), (3, .int s'.1), (4, .int s'.2.1)] [] s'.2.2 Q) (he : ∀ r' : Int32 × ps_G, x = .inr r' → ps_At mX5_middle (d + 1) 128 [(3, .int r'.1)] [] r'.2 Q) : ps_At mX5_middle (d + 1) 6 [(0, .ref x0), (1, .int x1), (2, .int x2), (3, .int x3), (4, .int x4)] [] g Q := by
  unfold bX5_middle_6 at h
  refine sX5_middle_6 ?_
  refine And.intro (fun hc1 => ?_) (fun hc1 => ?_)
  · replace h := q_ifp (hc1) h
    exact ps_weak (he (x3, g) (Option.some.inj h).symm) ⟨rfl, trivial⟩
  · replace h := q_ifn (hc1) h
    refine ⟨by decide, ?_⟩
    replace h := q_be h
    obtain ⟨s29, hl, h⟩ := h
    refine ps_weak (q_lp_ok hl (fun s => ps_At mX5_middle (d + 1) 14 [(0, .ref x0), (1, .int x1), (2, .int x2), (3, .int x3), (4, .int x4), (5, .int s.1)] [] s.2 Q) (fun r => ps_At mX5_middle (d + 1) 110 [(0, .ref x0), (1, .int x1), (2, .int x2), (3, .int x3), (4, .int x4)] [] r Q) (fun s x hb hh he => pbX5_middle_14 hb hh he) ?_) ⟨rfl, rfl, rfl, rfl, rfl, rfl, trivial⟩
    refine (?_ : ps_At mX5_middle (d + 1) 110 [(0, .ref x0), (1, .int x1), (2, .int x2), (3, .int x3), (4, .int x4)] [] s29 Q)
    refine sX5_middle_110 ?_
    replace h := q_be h
    obtain ⟨v30, hv, h⟩ := h
    replace hv := q_fR_e hv
    obtain ⟨_, cv30, dv30⟩ := hv
    replace h := q_be h
    obtain ⟨a31, ea31, h⟩ := h
    subst ea31
    replace h := q_be h
    obtain ⟨v32, hv, h⟩ := h
    replace hv := q_aI_e hv
    obtain ⟨_, _, cv32, iv32, yv32⟩ := hv
    refine ⟨⟨some _, rfl⟩, _, _, cv30, dv30, _, _, cv32, iv32, _, yv32, by decide, by decide, ?_⟩
    exact ps_weak (hh (x3 ||| (q_shl v32 x4), x4 + (-8 : Int32), s29) (Option.some.inj h).symm) ⟨rfl, rfl, rfl, rfl, rfl, trivial⟩
noncomputable def fX5_middle (g : ps_G) (x0 : Nat) (x1 : Int32) (x2 : Int32) : Option (Int32 × ps_G) := Option.bind (q_lp (fun s => bX5_middle_6 x0 x1 x2 s.1 s.2.1 s.2.2) ((0 : Int32), (24 : Int32), g)) fun s35 => some (s35.1, s35.2)
theorem rX5_middle {d : Nat} {Q : ps_Rs → ps_G → Prop} {g : ps_G} {x0 : Nat} {x1 : Int32} {x2 : Int32} {r : Int32 × ps_G} (h : fX5_middle g x0 x1 x2 = some r) (hk : Q (.inl (some (.int r.1))) r.2) : ps_Ok mX5_middle (d + 1) [.ref x0, .int x1, .int x2] g Q := by
  unfold fX5_middle at h
  refine sX5_middle_0 ?_
  refine ⟨by decide, by decide, ?_⟩
  replace h := q_be h
  obtain ⟨s35, hl, h⟩ := h
  refine ps_weak (q_lp_ok hl (fun s => ps_At mX5_middle (d + 1) 6 [(0, .ref x0), (1, .int x1), (2, .int x2), (3, .int s.1), (4, .int s.2.1)] [] s.2.2 Q) (fun r => ps_At mX5_middle (d + 1) 128 [(3, .int r.1)] [] r.2 Q) (fun s x hb hh he => pbX5_middle_6 hb hh he) ?_) ⟨rfl, rfl, rfl, rfl, rfl, trivial⟩
  refine (?_ : ps_At mX5_middle (d + 1) 128 [(3, .int s35.1)] [] s35.2 Q)
  refine sX5_middle_128 ?_
  cases h
  exact ⟨rfl, hk⟩
def fX11_luma (x0 : Int32) : Int32 := q_shr ((((77 : Int32) * ((q_shr x0 (16 : Int32)) &&& (255 : Int32))) + ((151 : Int32) * ((q_shr x0 (8 : Int32)) &&& (255 : Int32)))) + ((28 : Int32) * (x0 &&& (255 : Int32)))) (8 : Int32)
theorem rX11_luma {d : Nat} {Q : ps_Rs → ps_G → Prop} {g : ps_G} {x0 : Int32} {r : Int32} (h : fX11_luma x0 = r) (hk : Q (.inl (some (.int r))) g) : ps_Ok mX11_luma d [.int x0] g Q := by
  unfold fX11_luma at h
  refine sX11_luma_0 ?_
  subst h
  exact ⟨rfl, hk⟩
def fX11_pack (x0 : Int32) (x1 : Int32) (x2 : Int32) (x3 : Int32) : Int32 := (((q_shl x0 (24 : Int32)) ||| (q_shl x1 (16 : Int32))) ||| (q_shl x2 (8 : Int32))) ||| x3
theorem rX11_pack {d : Nat} {Q : ps_Rs → ps_G → Prop} {g : ps_G} {x0 : Int32} {x1 : Int32} {x2 : Int32} {x3 : Int32} {r : Int32} (h : fX11_pack x0 x1 x2 x3 = r) (hk : Q (.inl (some (.int r))) g) : ps_Ok mX11_pack d [.int x0, .int x1, .int x2, .int x3] g Q := by
  unfold fX11_pack at h
  refine sX11_pack_0 ?_
  subst h
  exact ⟨rfl, hk⟩
noncomputable def bX5_edges_2 (x0 : Nat) (x1 : Int32) (x2 : Int32) (x3 : Int32) (g : ps_G) : Option ((Int32 × ps_G) ⊕ (ps_G)) := if (9 : Int32) ≤ x3 then (some (.inr g)) else (Option.bind (q_fR 5 6 g x0) fun v3 => Option.bind (v3) fun a4 => Option.bind (q_ob 5 g x0) fun u5 => Option.bind (fX5_near g x0 ((x1 + (q_rem x3 (3 : Int32))) - (1 : Int32)) ((x2 + (x3 / (3 : Int32))) - (1 : Int32))) fun v6 => Option.bind (q_wI g a4 x3 (fX11_luma v6)) fun g7 => some (.inl (x3 + (1 : Int32), g7)))
theorem pbX5_edges_2 {d : Nat} {Q : ps_Rs → ps_G → Prop}  {x0 : Nat} {x1 : Int32} {x2 : Int32} {x3 : Int32} {g : ps_G} {x : (Int32 × ps_G) ⊕ (ps_G)} (h : bX5_edges_2 x0 x1 x2 x3 g = some x) (hh : ∀ s' : Int32 × ps_G, x = .inl s' → ps_At mX5_edges (d + 1) 2 [(0, .ref x0), (1, .int x1), (2, .int x2), (3, .int s'.1)] [] s'.2 Q) (he : ∀ r' : ps_G, x = .inr r' → ps_At mX5_edges (d + 1) 41 [(0, .ref x0), (1, .int x1), (2, .int x2)] [] r' Q) : ps_At mX5_edges (d + 1) 2 [(0, .ref x0), (1, .int x1), (2, .int x2), (3, .int x3)] [] g Q := by
  unfold bX5_edges_2 at h
  refine sX5_edges_2 ?_
  refine And.intro (fun hc1 => ?_) (fun hc1 => ?_)
  · replace h := q_ifp (hc1) h
    exact ps_weak (he g (Option.some.inj h).symm) ⟨rfl, rfl, rfl, trivial⟩
  · replace h := q_ifn (hc1) h
    replace h := q_be h
    obtain ⟨v3, hv, h⟩ := h
    replace hv := q_fR_e hv
    obtain ⟨_, cv3, dv3⟩ := hv
    replace h := q_be h
    obtain ⟨a4, ea4, h⟩ := h
    subst ea4
    replace h := q_be h
    obtain ⟨u5, hv, h⟩ := h
    replace hv := q_ob_e hv
    obtain ⟨_, cu5⟩ := hv
    replace h := q_be h
    obtain ⟨v6, hv, h⟩ := h
    refine ⟨⟨some _, rfl⟩, _, _, cv3, dv3, ⟨some _, rfl⟩, by decide, _, rfl, by decide, _, rfl, ⟨_, cu5⟩, ?_⟩
    refine rX5_near hv ?_
    refine rX11_luma rfl ?_
    replace h := q_be h
    obtain ⟨g7, hv, h⟩ := h
    replace hv := q_wI_e hv
    obtain ⟨_, _, cg7, pg7, ig7, yg7⟩ := hv
    refine ⟨_, _, cg7, pg7, ig7, _, yg7, by decide, ?_⟩
    exact ps_weak (hh (x3 + (1 : Int32), g7) (Option.some.inj h).symm) ⟨rfl, rfl, rfl, rfl, trivial⟩
noncomputable def fX5_edges (g : ps_G) (x0 : Nat) (x1 : Int32) (x2 : Int32) : Option (Int32 × ps_G) := Option.bind (q_lp (fun s => bX5_edges_2 x0 x1 x2 s.1 s.2) ((0 : Int32), g)) fun s10 => Option.bind (q_fR 5 6 s10 x0) fun v11 => Option.bind (v11) fun a12 => Option.bind (q_aI s10 a12 (2 : Int32)) fun v13 => Option.bind (q_fR 5 6 s10 x0) fun v14 => Option.bind (v14) fun a15 => Option.bind (q_aI s10 a15 (5 : Int32)) fun v16 => Option.bind (q_fR 5 6 s10 x0) fun v17 => Option.bind (v17) fun a18 => Option.bind (q_aI s10 a18 (8 : Int32)) fun v19 => Option.bind (q_fR 5 6 s10 x0) fun v20 => Option.bind (v20) fun a21 => Option.bind (q_aI s10 a21 (0 : Int32)) fun v22 => Option.bind (q_fR 5 6 s10 x0) fun v23 => Option.bind (v23) fun a24 => Option.bind (q_aI s10 a24 (3 : Int32)) fun v25 => Option.bind (q_fR 5 6 s10 x0) fun v26 => Option.bind (v26) fun a27 => Option.bind (q_aI s10 a27 (6 : Int32)) fun v28 => Option.bind (q_fR 5 6 s10 x0) fun v29 => Option.bind (v29) fun a30 => Option.bind (q_aI s10 a30 (6 : Int32)) fun v31 => Option.bind (q_fR 5 6 s10 x0) fun v32 => Option.bind (v32) fun a33 => Option.bind (q_aI s10 a33 (7 : Int32)) fun v34 => Option.bind (q_fR 5 6 s10 x0) fun v35 => Option.bind (v35) fun a36 => Option.bind (q_aI s10 a36 (8 : Int32)) fun v37 => Option.bind (q_fR 5 6 s10 x0) fun v38 => Option.bind (v38) fun a39 => Option.bind (q_aI s10 a39 (0 : Int32)) fun v40 => Option.bind (q_fR 5 6 s10 x0) fun v41 => Option.bind (v41) fun a42 => Option.bind (q_aI s10 a42 (1 : Int32)) fun v43 => Option.bind (q_fR 5 6 s10 x0) fun v44 => Option.bind (v44) fun a45 => Option.bind (q_aI s10 a45 (2 : Int32)) fun v46 => Option.bind (q_ob 5 s10 x0) fun u47 => Option.bind (fX5_near s10 x0 x1 x2) fun v48 => some (fX11_pack (q_ush v48 (24 : Int32)) (fJ9_min_7cf53 (255 : Int32) ((fJ9_abs_0f7a4 (((((v13 + ((2 : Int32) * v16)) + v19) - v22) - ((2 : Int32) * v25)) - v28)) + (fJ9_abs_0f7a4 (((((v31 + ((2 : Int32) * v34)) + v37) - v40) - ((2 : Int32) * v43)) - v46)))) (fJ9_min_7cf53 (255 : Int32) ((fJ9_abs_0f7a4 (((((v13 + ((2 : Int32) * v16)) + v19) - v22) - ((2 : Int32) * v25)) - v28)) + (fJ9_abs_0f7a4 (((((v31 + ((2 : Int32) * v34)) + v37) - v40) - ((2 : Int32) * v43)) - v46)))) (fJ9_min_7cf53 (255 : Int32) ((fJ9_abs_0f7a4 (((((v13 + ((2 : Int32) * v16)) + v19) - v22) - ((2 : Int32) * v25)) - v28)) + (fJ9_abs_0f7a4 (((((v31 + ((2 : Int32) * v34)) + v37) - v40) - ((2 : Int32) * v43)) - v46)))), s10)
theorem rX5_edges {d : Nat} {Q : ps_Rs → ps_G → Prop} {g : ps_G} {x0 : Nat} {x1 : Int32} {x2 : Int32} {r : Int32 × ps_G} (h : fX5_edges g x0 x1 x2 = some r) (hk : Q (.inl (some (.int r.1))) r.2) : ps_Ok mX5_edges (d + 1) [.ref x0, .int x1, .int x2] g Q := by
  unfold fX5_edges at h
  refine sX5_edges_0 ?_
  refine ⟨by decide, ?_⟩
  replace h := q_be h
  obtain ⟨s10, hl, h⟩ := h
  refine ps_weak (q_lp_ok hl (fun s => ps_At mX5_edges (d + 1) 2 [(0, .ref x0), (1, .int x1), (2, .int x2), (3, .int s.1)] [] s.2 Q) (fun r => ps_At mX5_edges (d + 1) 41 [(0, .ref x0), (1, .int x1), (2, .int x2)] [] r Q) (fun s x hb hh he => pbX5_edges_2 hb hh he) ?_) ⟨rfl, rfl, rfl, rfl, trivial⟩
  refine (?_ : ps_At mX5_edges (d + 1) 41 [(0, .ref x0), (1, .int x1), (2, .int x2)] [] s10 Q)
  refine sX5_edges_41 ?_
  replace h := q_be h
  obtain ⟨v11, hv, h⟩ := h
  replace hv := q_fR_e hv
  obtain ⟨_, cv11, dv11⟩ := hv
  replace h := q_be h
  obtain ⟨a12, ea12, h⟩ := h
  subst ea12
  replace h := q_be h
  obtain ⟨v13, hv, h⟩ := h
  replace hv := q_aI_e hv
  obtain ⟨_, _, cv13, iv13, yv13⟩ := hv
  replace h := q_be h
  obtain ⟨v14, hv, h⟩ := h
  replace hv := q_fR_e hv
  obtain ⟨_, cv14, dv14⟩ := hv
  replace h := q_be h
  obtain ⟨a15, ea15, h⟩ := h
  subst ea15
  replace h := q_be h
  obtain ⟨v16, hv, h⟩ := h
  replace hv := q_aI_e hv
  obtain ⟨_, _, cv16, iv16, yv16⟩ := hv
  replace h := q_be h
  obtain ⟨v17, hv, h⟩ := h
  replace hv := q_fR_e hv
  obtain ⟨_, cv17, dv17⟩ := hv
  replace h := q_be h
  obtain ⟨a18, ea18, h⟩ := h
  subst ea18
  replace h := q_be h
  obtain ⟨v19, hv, h⟩ := h
  replace hv := q_aI_e hv
  obtain ⟨_, _, cv19, iv19, yv19⟩ := hv
  replace h := q_be h
  obtain ⟨v20, hv, h⟩ := h
  replace hv := q_fR_e hv
  obtain ⟨_, cv20, dv20⟩ := hv
  replace h := q_be h
  obtain ⟨a21, ea21, h⟩ := h
  subst ea21
  replace h := q_be h
  obtain ⟨v22, hv, h⟩ := h
  replace hv := q_aI_e hv
  obtain ⟨_, _, cv22, iv22, yv22⟩ := hv
  refine ⟨⟨some _, rfl⟩, _, _, cv11, dv11, _, _, cv13, iv13, _, yv13, ⟨some _, rfl⟩, _, _, cv14, dv14, _, _, cv16, iv16, _, yv16, ⟨some _, rfl⟩, _, _, cv17, dv17, _, _, cv19, iv19, _, yv19, ⟨some _, rfl⟩, _, _, cv20, dv20, _, _, cv22, iv22, _, yv22, ?_⟩
  replace h := q_be h
  obtain ⟨v23, hv, h⟩ := h
  replace hv := q_fR_e hv
  obtain ⟨_, cv23, dv23⟩ := hv
  replace h := q_be h
  obtain ⟨a24, ea24, h⟩ := h
  subst ea24
  replace h := q_be h
  obtain ⟨v25, hv, h⟩ := h
  replace hv := q_aI_e hv
  obtain ⟨_, _, cv25, iv25, yv25⟩ := hv
  replace h := q_be h
  obtain ⟨v26, hv, h⟩ := h
  replace hv := q_fR_e hv
  obtain ⟨_, cv26, dv26⟩ := hv
  replace h := q_be h
  obtain ⟨a27, ea27, h⟩ := h
  subst ea27
  replace h := q_be h
  obtain ⟨v28, hv, h⟩ := h
  replace hv := q_aI_e hv
  obtain ⟨_, _, cv28, iv28, yv28⟩ := hv
  replace h := q_be h
  obtain ⟨v29, hv, h⟩ := h
  replace hv := q_fR_e hv
  obtain ⟨_, cv29, dv29⟩ := hv
  replace h := q_be h
  obtain ⟨a30, ea30, h⟩ := h
  subst ea30
  replace h := q_be h
  obtain ⟨v31, hv, h⟩ := h
  replace hv := q_aI_e hv
  obtain ⟨_, _, cv31, iv31, yv31⟩ := hv
  replace h := q_be h
  obtain ⟨v32, hv, h⟩ := h
  replace hv := q_fR_e hv
  obtain ⟨_, cv32, dv32⟩ := hv
  replace h := q_be h
  obtain ⟨a33, ea33, h⟩ := h
  subst ea33
  replace h := q_be h
  obtain ⟨v34, hv, h⟩ := h
  replace hv := q_aI_e hv
  obtain ⟨_, _, cv34, iv34, yv34⟩ := hv
  refine ⟨⟨some _, rfl⟩, _, _, cv23, dv23, _, _, cv25, iv25, _, yv25, ⟨some _, rfl⟩, _, _, cv26, dv26, _, _, cv28, iv28, _, yv28, by decide, ⟨some _, rfl⟩, _, _, cv29, dv29, _, _, cv31, iv31, _, yv31, ⟨some _, rfl⟩, _, _, cv32, dv32, _, _, cv34, iv34, _, yv34, ?_⟩
  replace h := q_be h
  obtain ⟨v35, hv, h⟩ := h
  replace hv := q_fR_e hv
  obtain ⟨_, cv35, dv35⟩ := hv
  replace h := q_be h
  obtain ⟨a36, ea36, h⟩ := h
  subst ea36
  replace h := q_be h
  obtain ⟨v37, hv, h⟩ := h
  replace hv := q_aI_e hv
  obtain ⟨_, _, cv37, iv37, yv37⟩ := hv
  replace h := q_be h
  obtain ⟨v38, hv, h⟩ := h
  replace hv := q_fR_e hv
  obtain ⟨_, cv38, dv38⟩ := hv
  replace h := q_be h
  obtain ⟨a39, ea39, h⟩ := h
  subst ea39
  replace h := q_be h
  obtain ⟨v40, hv, h⟩ := h
  replace hv := q_aI_e hv
  obtain ⟨_, _, cv40, iv40, yv40⟩ := hv
  replace h := q_be h
  obtain ⟨v41, hv, h⟩ := h
  replace hv := q_fR_e hv
  obtain ⟨_, cv41, dv41⟩ := hv
  replace h := q_be h
  obtain ⟨a42, ea42, h⟩ := h
  subst ea42
  replace h := q_be h
  obtain ⟨v43, hv, h⟩ := h
  replace hv := q_aI_e hv
  obtain ⟨_, _, cv43, iv43, yv43⟩ := hv
  replace h := q_be h
  obtain ⟨v44, hv, h⟩ := h
  replace hv := q_fR_e hv
  obtain ⟨_, cv44, dv44⟩ := hv
  replace h := q_be h
  obtain ⟨a45, ea45, h⟩ := h
  subst ea45
  replace h := q_be h
  obtain ⟨v46, hv, h⟩ := h
  replace hv := q_aI_e hv
  obtain ⟨_, _, cv46, iv46, yv46⟩ := hv
  refine ⟨⟨some _, rfl⟩, _, _, cv35, dv35, _, _, cv37, iv37, _, yv37, ⟨some _, rfl⟩, _, _, cv38, dv38, _, _, cv40, iv40, _, yv40, ⟨some _, rfl⟩, _, _, cv41, dv41, _, _, cv43, iv43, _, yv43, ⟨some _, rfl⟩, _, _, cv44, dv44, _, _, cv46, iv46, _, yv46, ?_⟩
  refine ⟨by decide, ?_⟩
  refine rJ9_abs_0f7a4 rfl ?_
  refine rJ9_abs_0f7a4 rfl ?_
  refine rJ9_min_7cf53 rfl ?_
  replace h := q_be h
  obtain ⟨u47, hv, h⟩ := h
  replace hv := q_ob_e hv
  obtain ⟨_, cu47⟩ := hv
  replace h := q_be h
  obtain ⟨v48, hv, h⟩ := h
  refine ⟨by decide, ⟨some _, rfl⟩, ⟨_, cu47⟩, ?_⟩
  refine rX5_near hv ?_
  refine sX5_edges_163 ?_
  refine rX11_pack rfl ?_
  cases h
  exact ⟨rfl, hk⟩
def fX11_red (x0 : Int32) : Int32 := (q_shr x0 (16 : Int32)) &&& (255 : Int32)
theorem rX11_red {d : Nat} {Q : ps_Rs → ps_G → Prop} {g : ps_G} {x0 : Int32} {r : Int32} (h : fX11_red x0 = r) (hk : Q (.inl (some (.int r))) g) : ps_Ok mX11_red d [.int x0] g Q := by
  unfold fX11_red at h
  refine sX11_red_0 ?_
  subst h
  exact ⟨rfl, hk⟩
def fX11_green (x0 : Int32) : Int32 := (q_shr x0 (8 : Int32)) &&& (255 : Int32)
theorem rX11_green {d : Nat} {Q : ps_Rs → ps_G → Prop} {g : ps_G} {x0 : Int32} {r : Int32} (h : fX11_green x0 = r) (hk : Q (.inl (some (.int r))) g) : ps_Ok mX11_green d [.int x0] g Q := by
  unfold fX11_green at h
  refine sX11_green_0 ?_
  subst h
  exact ⟨rfl, hk⟩
def fX11_blue (x0 : Int32) : Int32 := x0 &&& (255 : Int32)
theorem rX11_blue {d : Nat} {Q : ps_Rs → ps_G → Prop} {g : ps_G} {x0 : Int32} {r : Int32} (h : fX11_blue x0 = r) (hk : Q (.inl (some (.int r))) g) : ps_Ok mX11_blue d [.int x0] g Q := by
  unfold fX11_blue at h
  refine sX11_blue_0 ?_
  subst h
  exact ⟨rfl, hk⟩
noncomputable def fX5_raised (g : ps_G) (x0 : Nat) (x1 : Int32) (x2 : Int32) : Option (Int32) := Option.bind (q_ob 5 g x0) fun u1 => Option.bind (fX5_near g x0 (x1 + (1 : Int32)) (x2 + (1 : Int32))) fun v2 => Option.bind (q_ob 5 g x0) fun u3 => Option.bind (fX5_near g x0 (x1 - (1 : Int32)) (x2 - (1 : Int32))) fun v4 => Option.bind (q_ob 5 g x0) fun u5 => Option.bind (fX5_near g x0 x1 x2) fun v6 => some (fX11_pack (q_ush v6 (24 : Int32)) (fX11_clip (((128 : Int32) + (fX11_red v2)) - (fX11_red v4))) (fX11_clip (((128 : Int32) + (fX11_green v2)) - (fX11_green v4))) (fX11_clip (((128 : Int32) + (fX11_blue v2)) - (fX11_blue v4))))
theorem rX5_raised {d : Nat} {Q : ps_Rs → ps_G → Prop} {g : ps_G} {x0 : Nat} {x1 : Int32} {x2 : Int32} {r : Int32} (h : fX5_raised g x0 x1 x2 = some r) (hk : Q (.inl (some (.int r))) g) : ps_Ok mX5_raised (d + 1) [.ref x0, .int x1, .int x2] g Q := by
  unfold fX5_raised at h
  refine sX5_raised_0 ?_
  replace h := q_be h
  obtain ⟨u1, hv, h⟩ := h
  replace hv := q_ob_e hv
  obtain ⟨_, cu1⟩ := hv
  replace h := q_be h
  obtain ⟨v2, hv, h⟩ := h
  refine ⟨⟨some _, rfl⟩, ⟨_, cu1⟩, ?_⟩
  refine rX5_near hv ?_
  replace h := q_be h
  obtain ⟨u3, hv, h⟩ := h
  replace hv := q_ob_e hv
  obtain ⟨_, cu3⟩ := hv
  replace h := q_be h
  obtain ⟨v4, hv, h⟩ := h
  refine ⟨by decide, ⟨some _, rfl⟩, ⟨_, cu3⟩, ?_⟩
  refine rX5_near hv ?_
  replace h := q_be h
  obtain ⟨u5, hv, h⟩ := h
  replace hv := q_ob_e hv
  obtain ⟨_, cu5⟩ := hv
  replace h := q_be h
  obtain ⟨v6, hv, h⟩ := h
  refine ⟨by decide, ⟨some _, rfl⟩, ⟨_, cu5⟩, ?_⟩
  refine rX5_near hv ?_
  refine rX11_red rfl ?_
  refine sX5_raised_39 ?_
  refine rX11_red rfl ?_
  refine rX11_clip rfl ?_
  refine rX11_green rfl ?_
  refine rX11_green rfl ?_
  refine sX5_raised_62 ?_
  refine rX11_clip rfl ?_
  refine rX11_blue rfl ?_
  refine rX11_blue rfl ?_
  refine rX11_clip rfl ?_
  refine rX11_pack rfl ?_
  cases h
  exact ⟨rfl, hk⟩
noncomputable def bX5_ownKernel_25 (g : ps_G) (x0 : Nat) (x1 : Int32) (x2 : Int32) (x3 : Int32) (x4 : Int32) (x5 : Int32) (x6 : Int32) : Option ((Int32 × Int32) ⊕ (Int32)) := if (9 : Int32) ≤ x6 then (some (.inr x5)) else (Option.bind (q_fR 5 3 g x0) fun v6 => Option.bind (v6) fun a7 => Option.bind (q_aI g a7 x6) fun v8 => Option.bind (q_ob 5 g x0) fun u9 => Option.bind (fX5_near g x0 ((x1 + (q_rem x6 (3 : Int32))) - (1 : Int32)) ((x2 + (x6 / (3 : Int32))) - (1 : Int32))) fun v10 => some (.inl (x5 + (v8 * ((q_shr v10 x4) &&& (255 : Int32))), x6 + (1 : Int32))))
theorem pbX5_ownKernel_25 {d : Nat} {Q : ps_Rs → ps_G → Prop} {g : ps_G} {x0 : Nat} {x1 : Int32} {x2 : Int32} {x3 : Int32} {x4 : Int32} {x5 : Int32} {x6 : Int32} {x : (Int32 × Int32) ⊕ (Int32)} (h : bX5_ownKernel_25 g x0 x1 x2 x3 x4 x5 x6 = some x) (hh : ∀ s' : Int32 × Int32, x = .inl s' → ps_At mX5_ownKernel (d + 1) 25 [(0, .ref x0), (1, .int x1), (2, .int x2), (3, .int x3), (4, .int x4), (5, .int s'.1), (6, .int s'.2)] [] g Q) (he : ∀ r' : Int32, x = .inr r' → ps_At mX5_ownKernel (d + 1) 78 [(0, .ref x0), (1, .int x1), (2, .int x2), (3, .int x3), (4, .int x4), (5, .int r')] [] g Q) : ps_At mX5_ownKernel (d + 1) 25 [(0, .ref x0), (1, .int x1), (2, .int x2), (3, .int x3), (4, .int x4), (5, .int x5), (6, .int x6)] [] g Q := by
  unfold bX5_ownKernel_25 at h
  refine sX5_ownKernel_25 ?_
  refine And.intro (fun hc4 => ?_) (fun hc4 => ?_)
  · replace h := q_ifp (hc4) h
    exact ps_weak (he x5 (Option.some.inj h).symm) ⟨rfl, rfl, rfl, rfl, rfl, rfl, trivial⟩
  · replace h := q_ifn (hc4) h
    replace h := q_be h
    obtain ⟨v6, hv, h⟩ := h
    replace hv := q_fR_e hv
    obtain ⟨_, cv6, dv6⟩ := hv
    replace h := q_be h
    obtain ⟨a7, ea7, h⟩ := h
    subst ea7
    replace h := q_be h
    obtain ⟨v8, hv, h⟩ := h
    replace hv := q_aI_e hv
    obtain ⟨_, _, cv8, iv8, yv8⟩ := hv
    replace h := q_be h
    obtain ⟨u9, hv, h⟩ := h
    replace hv := q_ob_e hv
    obtain ⟨_, cu9⟩ := hv
    replace h := q_be h
    obtain ⟨v10, hv, h⟩ := h
    refine ⟨⟨some _, rfl⟩, _, _, cv6, dv6, _, _, cv8, iv8, _, yv8, ⟨some _, rfl⟩, by decide, _, rfl, by decide, _, rfl, ⟨_, cu9⟩, ?_⟩
    refine rX5_near hv ?_
    refine ⟨by decide, by decide, ?_⟩
    exact ps_weak (hh (x5 + (v8 * ((q_shr v10 x4) &&& (255 : Int32))), x6 + (1 : Int32)) (Option.some.inj h).symm) ⟨rfl, rfl, rfl, rfl, rfl, rfl, rfl, trivial⟩
noncomputable def jX5_ownKernel_98_14 (g : ps_G) (x0 : Nat) (x1 : Int32) (x2 : Int32) (x4 : Int32) (k0 : Int32) (k1 : Int32) : Option ((Int32 × Int32) ⊕ (Int32)) := Option.bind (q_fI 5 5 g x0) fun v17 => some (.inl (k0 ||| (q_shl (fX11_clip (k1 + v17)) x4), x4 + (-8 : Int32)))
theorem pjX5_ownKernel_98_14 {d : Nat} {Q : ps_Rs → ps_G → Prop} {g : ps_G} {x0 : Nat} {x1 : Int32} {x2 : Int32} {x4 : Int32} {k0 : Int32} {k1 : Int32} {x : (Int32 × Int32) ⊕ (Int32)} (h : jX5_ownKernel_98_14 g x0 x1 x2 x4 k0 k1 = some x) (hh : ∀ s' : Int32 × Int32, x = .inl s' → ps_At mX5_ownKernel (d + 1) 14 [(0, .ref x0), (1, .int x1), (2, .int x2), (3, .int s'.1), (4, .int s'.2)] [] g Q) (he : ∀ r' : Int32, x = .inr r' → ps_At mX5_ownKernel (d + 1) 117 [(3, .int r')] [] g Q) : ps_At mX5_ownKernel (d + 1) 98 [(0, .ref x0), (1, .int x1), (2, .int x2), (4, .int x4)] [.int k1, .int k0] g Q := by
  unfold jX5_ownKernel_98_14 at h
  refine sX5_ownKernel_98 ?_
  replace h := q_be h
  obtain ⟨v17, hv, h⟩ := h
  replace hv := q_fI_e hv
  obtain ⟨_, cv17, dv17⟩ := hv
  refine ⟨⟨some _, rfl⟩, _, _, cv17, dv17, ?_⟩
  refine rX11_clip rfl ?_
  refine ⟨by decide, by decide, ?_⟩
  exact ps_weak (hh (k0 ||| (q_shl (fX11_clip (k1 + v17)) x4), x4 + (-8 : Int32)) (Option.some.inj h).symm) ⟨rfl, rfl, rfl, rfl, rfl, trivial⟩
noncomputable def bX5_ownKernel_14 (g : ps_G) (x0 : Nat) (x1 : Int32) (x2 : Int32) (x3 : Int32) (x4 : Int32) : Option ((Int32 × Int32) ⊕ (Int32)) := if x4 < 0 then (some (.inr x3)) else (Option.bind (q_lp (fun s => bX5_ownKernel_25 g x0 x1 x2 x3 x4 s.1 s.2) ((0 : Int32), (0 : Int32))) fun s13 => Option.bind (q_fI 5 4 g x0) fun v14 => if v14 ≤ 0 then (jX5_ownKernel_98_14 g x0 x1 x2 x4 x3 s13) else (Option.bind (q_fI 5 4 g x0) fun v18 => Option.bind (q_div s13 v18) fun v19 => jX5_ownKernel_98_14 g x0 x1 x2 x4 x3 v19))
theorem pbX5_ownKernel_14 {d : Nat} {Q : ps_Rs → ps_G → Prop} {g : ps_G} {x0 : Nat} {x1 : Int32} {x2 : Int32} {x3 : Int32} {x4 : Int32} {x : (Int32 × Int32) ⊕ (Int32)} (h : bX5_ownKernel_14 g x0 x1 x2 x3 x4 = some x) (hh : ∀ s' : Int32 × Int32, x = .inl s' → ps_At mX5_ownKernel (d + 1) 14 [(0, .ref x0), (1, .int x1), (2, .int x2), (3, .int s'.1), (4, .int s'.2)] [] g Q) (he : ∀ r' : Int32, x = .inr r' → ps_At mX5_ownKernel (d + 1) 117 [(3, .int r')] [] g Q) : ps_At mX5_ownKernel (d + 1) 14 [(0, .ref x0), (1, .int x1), (2, .int x2), (3, .int x3), (4, .int x4)] [] g Q := by
  unfold bX5_ownKernel_14 at h
  refine sX5_ownKernel_14 ?_
  refine And.intro (fun hc3 => ?_) (fun hc3 => ?_)
  · replace h := q_ifp (hc3) h
    exact ps_weak (he x3 (Option.some.inj h).symm) ⟨rfl, trivial⟩
  · replace h := q_ifn (hc3) h
    refine ⟨by decide, by decide, ?_⟩
    replace h := q_be h
    obtain ⟨s13, hl, h⟩ := h
    refine ps_weak (q_lp_ok hl (fun s => ps_At mX5_ownKernel (d + 1) 25 [(0, .ref x0), (1, .int x1), (2, .int x2), (3, .int x3), (4, .int x4), (5, .int s.1), (6, .int s.2)] [] g Q) (fun r => ps_At mX5_ownKernel (d + 1) 78 [(0, .ref x0), (1, .int x1), (2, .int x2), (3, .int x3), (4, .int x4), (5, .int r)] [] g Q) (fun s x hb hh he => pbX5_ownKernel_25 hb hh he) ?_) ⟨rfl, rfl, rfl, rfl, rfl, rfl, rfl, trivial⟩
    refine (?_ : ps_At mX5_ownKernel (d + 1) 78 [(0, .ref x0), (1, .int x1), (2, .int x2), (3, .int x3), (4, .int x4), (5, .int s13)] [] g Q)
    refine sX5_ownKernel_78 ?_
    replace h := q_be h
    obtain ⟨v14, hv, h⟩ := h
    replace hv := q_fI_e hv
    obtain ⟨_, cv14, dv14⟩ := hv
    refine ⟨⟨some _, rfl⟩, _, _, cv14, dv14, ?_⟩
    refine And.intro (fun hc15 => ?_) (fun hc15 => ?_)
    · replace h := q_ifp (hc15) h
      refine sX5_ownKernel_96 ?_
      exact ps_weak (pjX5_ownKernel_98_14 h hh he) ⟨rfl, rfl, rfl, rfl, trivial⟩
    · replace h := q_ifn (hc15) h
      replace h := q_be h
      obtain ⟨v18, hv, h⟩ := h
      replace hv := q_fI_e hv
      obtain ⟨_, cv18, dv18⟩ := hv
      replace h := q_be h
      obtain ⟨v19, hv, h⟩ := h
      replace hv := q_div_e hv
      obtain ⟨zv19, yv19⟩ := hv
      refine ⟨⟨some _, rfl⟩, _, _, cv18, dv18, zv19, _, yv19, ?_⟩
      exact ps_weak (pjX5_ownKernel_98_14 h hh he) ⟨rfl, rfl, rfl, rfl, trivial⟩
noncomputable def fX5_ownKernel (g : ps_G) (x0 : Nat) (x1 : Int32) (x2 : Int32) : Option (Int32) := Option.bind (q_ob 5 g x0) fun u1 => Option.bind (fX5_near g x0 x1 x2) fun v2 => Option.bind (q_lp (fun s => bX5_ownKernel_14 g x0 x1 x2 s.1 s.2) (v2 &&& (-16777216 : Int32), (16 : Int32))) fun s24 => some s24
theorem rX5_ownKernel {d : Nat} {Q : ps_Rs → ps_G → Prop} {g : ps_G} {x0 : Nat} {x1 : Int32} {x2 : Int32} {r : Int32} (h : fX5_ownKernel g x0 x1 x2 = some r) (hk : Q (.inl (some (.int r))) g) : ps_Ok mX5_ownKernel (d + 1) [.ref x0, .int x1, .int x2] g Q := by
  unfold fX5_ownKernel at h
  refine sX5_ownKernel_0 ?_
  replace h := q_be h
  obtain ⟨u1, hv, h⟩ := h
  replace hv := q_ob_e hv
  obtain ⟨_, cu1⟩ := hv
  replace h := q_be h
  obtain ⟨v2, hv, h⟩ := h
  refine ⟨⟨some _, rfl⟩, ⟨_, cu1⟩, ?_⟩
  refine rX5_near hv ?_
  refine ⟨by decide, by decide, ?_⟩
  replace h := q_be h
  obtain ⟨s24, hl, h⟩ := h
  refine ps_weak (q_lp_ok hl (fun s => ps_At mX5_ownKernel (d + 1) 14 [(0, .ref x0), (1, .int x1), (2, .int x2), (3, .int s.1), (4, .int s.2)] [] g Q) (fun r => ps_At mX5_ownKernel (d + 1) 117 [(3, .int r)] [] g Q) (fun s x hb hh he => pbX5_ownKernel_14 hb hh he) ?_) ⟨rfl, rfl, rfl, rfl, rfl, trivial⟩
  refine (?_ : ps_At mX5_ownKernel (d + 1) 117 [(3, .int s24)] [] g Q)
  refine sX5_ownKernel_117 ?_
  cases h
  exact ⟨rfl, hk⟩
noncomputable def fX5_grain (g : ps_G) (x0 : Int32) (x1 : Int32) (x2 : Int32) : Option (Int32) := Option.bind (q_mod (q_ush ((((((x0 * (374761393 : Int32)) + (x1 * (668265263 : Int32))) + x2) * (1274126177 : Int32)) ^^^ (q_ush ((((x0 * (374761393 : Int32)) + (x1 * (668265263 : Int32))) + x2) * (1274126177 : Int32)) (13 : Int32))) * (1103515245 : Int32)) (24 : Int32)) (((2 : Int32) * (q_shr (fJ9_max_7cf53 x2 (0 : Int32)) (3 : Int32))) + (1 : Int32))) fun v1 => some (v1 - (q_shr (fJ9_max_7cf53 x2 (0 : Int32)) (3 : Int32)))
theorem rX5_grain {d : Nat} {Q : ps_Rs → ps_G → Prop} {g : ps_G} {x0 : Int32} {x1 : Int32} {x2 : Int32} {r : Int32} (h : fX5_grain g x0 x1 x2 = some r) (hk : Q (.inl (some (.int r))) g) : ps_Ok mX5_grain (d + 1) [.int x0, .int x1, .int x2] g Q := by
  unfold fX5_grain at h
  refine sX5_grain_0 ?_
  refine rJ9_max_7cf53 rfl ?_
  replace h := q_be h
  obtain ⟨v1, hv, h⟩ := h
  replace hv := q_mod_e hv
  obtain ⟨zv1, yv1⟩ := hv
  cases h
  exact ⟨by decide, by decide, by decide, zv1, _, yv1, rfl, hk⟩
def fX5_lifted (x0 : Int32) (x1 : Int32) : Int32 := fX11_pack (q_ush x0 (24 : Int32)) (fX11_clip ((fX11_red x0) + x1)) (fX11_clip ((fX11_green x0) + x1)) (fX11_clip ((fX11_blue x0) + x1))
theorem rX5_lifted {d : Nat} {Q : ps_Rs → ps_G → Prop} {g : ps_G} {x0 : Int32} {x1 : Int32} {r : Int32} (h : fX5_lifted x0 x1 = r) (hk : Q (.inl (some (.int r))) g) : ps_Ok mX5_lifted (d + 1) [.int x0, .int x1] g Q := by
  unfold fX5_lifted at h
  refine sX5_lifted_0 ?_
  refine rX11_red rfl ?_
  refine rX11_clip rfl ?_
  refine rX11_green rfl ?_
  refine rX11_clip rfl ?_
  refine sX5_lifted_22 ?_
  refine rX11_blue rfl ?_
  refine rX11_clip rfl ?_
  refine rX11_pack rfl ?_
  subst h
  exact ⟨rfl, hk⟩
noncomputable def jX5_hue_112 (g : ps_G) (x0 : Int32) (x1 : Int32) (x5 : Int32) (x6 : Int32) (x7 : Int32) (k0 : Int32) : Option (Int32) := Option.bind (fJ9_floorMod_7cf53 g (k0 + ((6 : Int32) * x1)) (1536 : Int32)) fun v8 => if (v8 / (256 : Int32)) = 0 then (some (fX11_pack (q_ush x0 (24 : Int32)) x5 (x6 + ((x7 * (q_rem v8 (256 : Int32))) / (256 : Int32))) x6)) else (if (v8 / (256 : Int32)) = 1 then (some (fX11_pack (q_ush x0 (24 : Int32)) (x5 - ((x7 * (q_rem v8 (256 : Int32))) / (256 : Int32))) x5 x6)) else (if (v8 / (256 : Int32)) = 2 then (some (fX11_pack (q_ush x0 (24 : Int32)) x6 x5 (x6 + ((x7 * (q_rem v8 (256 : Int32))) / (256 : Int32))))) else (if (v8 / (256 : Int32)) = 3 then (some (fX11_pack (q_ush x0 (24 : Int32)) x6 (x5 - ((x7 * (q_rem v8 (256 : Int32))) / (256 : Int32))) x5)) else (if (v8 / (256 : Int32)) = 4 then (some (fX11_pack (q_ush x0 (24 : Int32)) (x6 + ((x7 * (q_rem v8 (256 : Int32))) / (256 : Int32))) x6 x5)) else (some (fX11_pack (q_ush x0 (24 : Int32)) x5 x6 (x5 - ((x7 * (q_rem v8 (256 : Int32))) / (256 : Int32)))))))))
theorem pjX5_hue_112 {d : Nat} {Q : ps_Rs → ps_G → Prop} {g : ps_G} {x0 : Int32} {x1 : Int32} {x5 : Int32} {x6 : Int32} {x7 : Int32} {k0 : Int32} {r : Int32} (h : jX5_hue_112 g x0 x1 x5 x6 x7 k0 = some r) (hk : Q (.inl (some (.int r))) g) : ps_At mX5_hue (d + 1) 112 [(0, .int x0), (1, .int x1), (5, .int x5), (6, .int x6), (7, .int x7)] [.int k0] g Q := by
  unfold jX5_hue_112 at h
  refine sX5_hue_112 ?_
  replace h := q_be h
  obtain ⟨v8, hv, h⟩ := h
  refine ⟨by decide, ?_⟩
  refine rJ9_floorMod_7cf53 hv ?_
  refine ⟨by decide, by decide, _, rfl, by decide, _, rfl, by decide, by decide, _, rfl, by decide, _, rfl, by decide, by decide, by decide, _, rfl, ?_⟩
  refine sX5_hue_177 ?_
  by_cases hc9 : (v8 / (256 : Int32)) = 0
  · replace h := q_ifp hc9 h
    have eT : ps_tsel 177 95 0 4 #[35, 47, 59, 71, 83] (v8 / (256 : Int32)) = 212 := by
      rw [hc9]; decide +kernel
    refine ps_at_eq eT ?_
    refine sX5_hue_212 ?_
    refine rX11_pack rfl ?_
    cases h
    exact ⟨rfl, hk⟩
  replace h := q_ifn hc9 h
  by_cases hc10 : (v8 / (256 : Int32)) = 1
  · replace h := q_ifp hc10 h
    have eT : ps_tsel 177 95 0 4 #[35, 47, 59, 71, 83] (v8 / (256 : Int32)) = 224 := by
      rw [hc10]; decide +kernel
    refine ps_at_eq eT ?_
    refine sX5_hue_224 ?_
    refine rX11_pack rfl ?_
    cases h
    exact ⟨rfl, hk⟩
  replace h := q_ifn hc10 h
  by_cases hc11 : (v8 / (256 : Int32)) = 2
  · replace h := q_ifp hc11 h
    have eT : ps_tsel 177 95 0 4 #[35, 47, 59, 71, 83] (v8 / (256 : Int32)) = 236 := by
      rw [hc11]; decide +kernel
    refine ps_at_eq eT ?_
    refine sX5_hue_236 ?_
    refine rX11_pack rfl ?_
    cases h
    exact ⟨rfl, hk⟩
  replace h := q_ifn hc11 h
  by_cases hc12 : (v8 / (256 : Int32)) = 3
  · replace h := q_ifp hc12 h
    have eT : ps_tsel 177 95 0 4 #[35, 47, 59, 71, 83] (v8 / (256 : Int32)) = 248 := by
      rw [hc12]; decide +kernel
    refine ps_at_eq eT ?_
    refine sX5_hue_248 ?_
    refine rX11_pack rfl ?_
    cases h
    exact ⟨rfl, hk⟩
  replace h := q_ifn hc12 h
  by_cases hc13 : (v8 / (256 : Int32)) = 4
  · replace h := q_ifp hc13 h
    have eT : ps_tsel 177 95 0 4 #[35, 47, 59, 71, 83] (v8 / (256 : Int32)) = 260 := by
      rw [hc13]; decide +kernel
    refine ps_at_eq eT ?_
    refine sX5_hue_260 ?_
    refine rX11_pack rfl ?_
    cases h
    exact ⟨rfl, hk⟩
  replace h := q_ifn hc13 h
  have eD : ps_tsel 177 95 0 4 #[35, 47, 59, 71, 83] (v8 / (256 : Int32)) = 272 := by
    refine q_tsd (by decide +kernel) (fun z h1 h2 => ?_)
    have hz : z = 0 ∨ z = 1 ∨ z = 2 ∨ z = 3 ∨ z = 4 := by omega
    rcases hz with rfl | rfl | rfl | rfl | rfl
    · exact Or.inl (q_tsx (v := 0) (fun z => hc9 z))
    · exact Or.inl (q_tsx (v := 1) (fun z => hc10 z))
    · exact Or.inl (q_tsx (v := 2) (fun z => hc11 z))
    · exact Or.inl (q_tsx (v := 3) (fun z => hc12 z))
    · exact Or.inl (q_tsx (v := 4) (fun z => hc13 z))
  refine ps_at_eq eD ?_
  refine sX5_hue_272 ?_
  refine rX11_pack rfl ?_
  cases h
  exact ⟨rfl, hk⟩
noncomputable def fX5_hue (g : ps_G) (x0 : Int32) (x1 : Int32) : Option (Int32) := if 0 < ((fJ9_max_7cf53 (fX11_red x0) (fJ9_max_7cf53 (fX11_green x0) (fX11_blue x0))) - (fJ9_min_7cf53 (fX11_red x0) (fJ9_min_7cf53 (fX11_green x0) (fX11_blue x0)))) then (if ¬ (fJ9_max_7cf53 (fX11_red x0) (fJ9_max_7cf53 (fX11_green x0) (fX11_blue x0))) = (fX11_red x0) then (if ¬ (fJ9_max_7cf53 (fX11_red x0) (fJ9_max_7cf53 (fX11_green x0) (fX11_blue x0))) = (fX11_green x0) then (Option.bind (q_div ((256 : Int32) * ((fX11_red x0) - (fX11_green x0))) ((fJ9_max_7cf53 (fX11_red x0) (fJ9_max_7cf53 (fX11_green x0) (fX11_blue x0))) - (fJ9_min_7cf53 (fX11_red x0) (fJ9_min_7cf53 (fX11_green x0) (fX11_blue x0))))) fun v7 => jX5_hue_112 g x0 x1 (fJ9_max_7cf53 (fX11_red x0) (fJ9_max_7cf53 (fX11_green x0) (fX11_blue x0))) (fJ9_min_7cf53 (fX11_red x0) (fJ9_min_7cf53 (fX11_green x0) (fX11_blue x0))) ((fJ9_max_7cf53 (fX11_red x0) (fJ9_max_7cf53 (fX11_green x0) (fX11_blue x0))) - (fJ9_min_7cf53 (fX11_red x0) (fJ9_min_7cf53 (fX11_green x0) (fX11_blue x0)))) ((1024 : Int32) + v7)) else (Option.bind (q_div ((256 : Int32) * ((fX11_blue x0) - (fX11_red x0))) ((fJ9_max_7cf53 (fX11_red x0) (fJ9_max_7cf53 (fX11_green x0) (fX11_blue x0))) - (fJ9_min_7cf53 (fX11_red x0) (fJ9_min_7cf53 (fX11_green x0) (fX11_blue x0))))) fun v14 => jX5_hue_112 g x0 x1 (fJ9_max_7cf53 (fX11_red x0) (fJ9_max_7cf53 (fX11_green x0) (fX11_blue x0))) (fJ9_min_7cf53 (fX11_red x0) (fJ9_min_7cf53 (fX11_green x0) (fX11_blue x0))) ((fJ9_max_7cf53 (fX11_red x0) (fJ9_max_7cf53 (fX11_green x0) (fX11_blue x0))) - (fJ9_min_7cf53 (fX11_red x0) (fJ9_min_7cf53 (fX11_green x0) (fX11_blue x0)))) ((512 : Int32) + v14))) else (Option.bind (q_div ((256 : Int32) * ((fX11_green x0) - (fX11_blue x0))) ((fJ9_max_7cf53 (fX11_red x0) (fJ9_max_7cf53 (fX11_green x0) (fX11_blue x0))) - (fJ9_min_7cf53 (fX11_red x0) (fJ9_min_7cf53 (fX11_green x0) (fX11_blue x0))))) fun v17 => jX5_hue_112 g x0 x1 (fJ9_max_7cf53 (fX11_red x0) (fJ9_max_7cf53 (fX11_green x0) (fX11_blue x0))) (fJ9_min_7cf53 (fX11_red x0) (fJ9_min_7cf53 (fX11_green x0) (fX11_blue x0))) ((fJ9_max_7cf53 (fX11_red x0) (fJ9_max_7cf53 (fX11_green x0) (fX11_blue x0))) - (fJ9_min_7cf53 (fX11_red x0) (fJ9_min_7cf53 (fX11_green x0) (fX11_blue x0)))) v17)) else (some x0)
theorem rX5_hue {d : Nat} {Q : ps_Rs → ps_G → Prop} {g : ps_G} {x0 : Int32} {x1 : Int32} {r : Int32} (h : fX5_hue g x0 x1 = some r) (hk : Q (.inl (some (.int r))) g) : ps_Ok mX5_hue (d + 1) [.int x0, .int x1] g Q := by
  unfold fX5_hue at h
  refine sX5_hue_0 ?_
  refine rX11_red rfl ?_
  refine ⟨by decide, ?_⟩
  refine rX11_green rfl ?_
  refine ⟨by decide, ?_⟩
  refine rX11_blue rfl ?_
  refine ⟨by decide, ?_⟩
  refine rJ9_max_7cf53 rfl ?_
  refine rJ9_max_7cf53 rfl ?_
  refine sX5_hue_26 ?_
  refine ⟨by decide, ?_⟩
  refine rJ9_min_7cf53 rfl ?_
  refine rJ9_min_7cf53 rfl ?_
  refine ⟨by decide, by decide, ?_⟩
  refine And.intro (fun hc1 => ?_) (fun hc1 => ?_)
  · replace h := q_ifp (hc1) h
    refine sX5_hue_54 ?_
    refine And.intro (fun hc2 => ?_) (fun hc2 => ?_)
    · replace h := q_ifp (hc2) h
      refine sX5_hue_74 ?_
      refine And.intro (fun hc5 => ?_) (fun hc5 => ?_)
      · replace h := q_ifp (hc5) h
        refine sX5_hue_98 ?_
        replace h := q_be h
        obtain ⟨v7, hv, h⟩ := h
        replace hv := q_div_e hv
        obtain ⟨zv7, yv7⟩ := hv
        refine ⟨zv7, _, yv7, ?_⟩
        exact ps_weak (pjX5_hue_112 h hk) ⟨rfl, rfl, rfl, rfl, rfl, trivial⟩
      · replace h := q_ifn (hc5) h
        replace h := q_be h
        obtain ⟨v14, hv, h⟩ := h
        replace hv := q_div_e hv
        obtain ⟨zv14, yv14⟩ := hv
        refine ⟨zv14, _, yv14, ?_⟩
        exact ps_weak (pjX5_hue_112 h hk) ⟨rfl, rfl, rfl, rfl, rfl, trivial⟩
    · replace h := q_ifn (hc2) h
      replace h := q_be h
      obtain ⟨v17, hv, h⟩ := h
      replace hv := q_div_e hv
      obtain ⟨zv17, yv17⟩ := hv
      refine ⟨zv17, _, yv17, ?_⟩
      exact ps_weak (pjX5_hue_112 h hk) ⟨rfl, rfl, rfl, rfl, rfl, trivial⟩
  · replace h := q_ifn (hc1) h
    cases h
    exact ⟨rfl, hk⟩
noncomputable def jX5_alone_175_15 (g : ps_G) (x0 : Int32) (x1 : Int32) (x2 : Int32) (x3 : Int32) (x4 : Int32) (x5 : Int32) (x6 : Int32) : Option ((Int32 × Int32) ⊕ (Int32)) := some (.inl (x3 ||| (q_shl x6 x5), x5 + (-8 : Int32)))
theorem pjX5_alone_175_15 {d : Nat} {Q : ps_Rs → ps_G → Prop} {g : ps_G} {x0 : Int32} {x1 : Int32} {x2 : Int32} {x3 : Int32} {x4 : Int32} {x5 : Int32} {x6 : Int32} {x : (Int32 × Int32) ⊕ (Int32)} (h : jX5_alone_175_15 g x0 x1 x2 x3 x4 x5 x6 = some x) (hh : ∀ s' : Int32 × Int32, x = .inl s' → ps_At mX5_alone (d + 1) 15 [(0, .int x0), (1, .int x1), (2, .int x2), (3, .int s'.1), (4, .int x4), (5, .int s'.2)] [] g Q) (he : ∀ r' : Int32, x = .inr r' → ps_At mX5_alone (d + 1) 189 [(3, .int r')] [] g Q) : ps_At mX5_alone (d + 1) 175 [(0, .int x0), (1, .int x1), (2, .int x2), (3, .int x3), (4, .int x4), (5, .int x5), (6, .int x6)] [] g Q := by
  unfold jX5_alone_175_15 at h
  refine sX5_alone_175 ?_
  refine ⟨by decide, by decide, ?_⟩
  exact ps_weak (hh (x3 ||| (q_shl x6 x5), x5 + (-8 : Int32)) (Option.some.inj h).symm) ⟨rfl, rfl, rfl, rfl, rfl, rfl, trivial⟩
noncomputable def jX5_alone_131_15 (g : ps_G) (x0 : Int32) (x1 : Int32) (x2 : Int32) (x3 : Int32) (x4 : Int32) (x5 : Int32) (k0 : Int32) : Option ((Int32 × Int32) ⊕ (Int32)) := jX5_alone_175_15 g x0 x1 x2 x3 x4 x5 k0
theorem pjX5_alone_131_15 {d : Nat} {Q : ps_Rs → ps_G → Prop} {g : ps_G} {x0 : Int32} {x1 : Int32} {x2 : Int32} {x3 : Int32} {x4 : Int32} {x5 : Int32} {k0 : Int32} {x : (Int32 × Int32) ⊕ (Int32)} (h : jX5_alone_131_15 g x0 x1 x2 x3 x4 x5 k0 = some x) (hh : ∀ s' : Int32 × Int32, x = .inl s' → ps_At mX5_alone (d + 1) 15 [(0, .int x0), (1, .int x1), (2, .int x2), (3, .int s'.1), (4, .int x4), (5, .int s'.2)] [] g Q) (he : ∀ r' : Int32, x = .inr r' → ps_At mX5_alone (d + 1) 189 [(3, .int r')] [] g Q) : ps_At mX5_alone (d + 1) 131 [(0, .int x0), (1, .int x1), (2, .int x2), (3, .int x3), (4, .int x4), (5, .int x5)] [.int k0] g Q := by
  unfold jX5_alone_131_15 at h
  refine sX5_alone_131 ?_
  refine ⟨by decide, ?_⟩
  exact ps_weak (pjX5_alone_175_15 h hh he) ⟨rfl, rfl, rfl, rfl, rfl, rfl, rfl, trivial⟩
noncomputable def bX5_alone_15 (g : ps_G) (x0 : Int32) (x1 : Int32) (x2 : Int32) (x4 : Int32) (x3 : Int32) (x5 : Int32) : Option ((Int32 × Int32) ⊕ (Int32)) := if x5 < 0 then (some (.inr x3)) else (if x0 = 6 then (jX5_alone_175_15 g x0 x1 x2 x3 x4 x5 (if x4 < x1 then (0 : Int32) else (255 : Int32))) else (if x0 = 7 then (if x1 ≤ (1 : Int32) then (jX5_alone_131_15 g x0 x1 x2 x3 x4 x5 ((q_shr x2 x5) &&& (255 : Int32))) else (Option.bind (q_div (((((((q_shr x2 x5) &&& (255 : Int32)) * (x1 - (1 : Int32))) + (127 : Int32)) / (255 : Int32)) * (255 : Int32)) + ((x1 - (1 : Int32)) / (2 : Int32))) (x1 - (1 : Int32))) fun v9 => jX5_alone_131_15 g x0 x1 x2 x3 x4 x5 v9)) else (if x0 = 8 then (jX5_alone_175_15 g x0 x1 x2 x3 x4 x5 ((255 : Int32) - ((q_shr x2 x5) &&& (255 : Int32)))) else (if x0 = 11 then (jX5_alone_175_15 g x0 x1 x2 x3 x4 x5 x4) else (if x0 = 13 then (jX5_alone_175_15 g x0 x1 x2 x3 x4 x5 (fX11_clip (x4 + (q_shr ((((q_shr x2 x5) &&& (255 : Int32)) - x4) * x1) (6 : Int32))))) else (jX5_alone_175_15 g x0 x1 x2 x3 x4 x5 ((q_shr x2 x5) &&& (255 : Int32))))))))
theorem pbX5_alone_15 {d : Nat} {Q : ps_Rs → ps_G → Prop} {g : ps_G} {x0 : Int32} {x1 : Int32} {x2 : Int32} {x4 : Int32} {x3 : Int32} {x5 : Int32} {x : (Int32 × Int32) ⊕ (Int32)} (h : bX5_alone_15 g x0 x1 x2 x4 x3 x5 = some x) (hh : ∀ s' : Int32 × Int32, x = .inl s' → ps_At mX5_alone (d + 1) 15 [(0, .int x0), (1, .int x1), (2, .int x2), (3, .int s'.1), (4, .int x4), (5, .int s'.2)] [] g Q) (he : ∀ r' : Int32, x = .inr r' → ps_At mX5_alone (d + 1) 189 [(3, .int r')] [] g Q) : ps_At mX5_alone (d + 1) 15 [(0, .int x0), (1, .int x1), (2, .int x2), (3, .int x3), (4, .int x4), (5, .int x5)] [] g Q := by
  unfold bX5_alone_15 at h
  refine sX5_alone_15 ?_
  refine And.intro (fun hc1 => ?_) (fun hc1 => ?_)
  · replace h := q_ifp (hc1) h
    exact ps_weak (he x3 (Option.some.inj h).symm) ⟨rfl, trivial⟩
  · replace h := q_ifn (hc1) h
    refine ⟨by decide, ?_⟩
    refine sX5_alone_31 ?_
    by_cases hc2 : x0 = 6
    · replace h := q_ifp hc2 h
      have eT : ps_tsel 31 144 6 13 #[45, 63, 105, 144, 144, 116, 144, 123] x0 = 76 := by
        rw [hc2]; decide +kernel
      refine ps_at_eq eT ?_
      refine sX5_alone_76 ?_
      have kJ5 : ∀ w4 : Int32, w4 = (if x4 < x1 then (0 : Int32) else (255 : Int32)) → ps_At mX5_alone (d + 1) 89 [(0, .int x0), (1, .int x1), (2, .int x2), (3, .int x3), (4, .int x4), (5, .int x5)] [.int w4] g Q := by
        rintro _ rfl
        refine sX5_alone_89 ?_
        refine ⟨by decide, ?_⟩
        exact ps_weak (pjX5_alone_175_15 h hh he) ⟨rfl, rfl, rfl, rfl, rfl, rfl, rfl, trivial⟩
      refine And.intro (fun hc3 => ?_) (fun hc3 => ?_)
      · refine sX5_alone_88 ?_
        exact ps_weak (kJ5 _ (if_pos (hc3)).symm) ⟨rfl, rfl, rfl, rfl, rfl, rfl, trivial⟩
      · exact ps_weak (kJ5 _ (if_neg (hc3)).symm) ⟨rfl, rfl, rfl, rfl, rfl, rfl, trivial⟩
    replace h := q_ifn hc2 h
    by_cases hc6 : x0 = 7
    · replace h := q_ifp hc6 h
      have eT : ps_tsel 31 144 6 13 #[45, 63, 105, 144, 144, 116, 144, 123] x0 = 94 := by
        rw [hc6]; decide +kernel
      refine ps_at_eq eT ?_
      refine sX5_alone_94 ?_
      refine And.intro (fun hc7 => ?_) (fun hc7 => ?_)
      · replace h := q_ifp (hc7) h
        refine sX5_alone_129 ?_
        exact ps_weak (pjX5_alone_131_15 h hh he) ⟨rfl, rfl, rfl, rfl, rfl, rfl, trivial⟩
      · replace h := q_ifn (hc7) h
        replace h := q_be h
        obtain ⟨v9, hv, h⟩ := h
        replace hv := q_div_e hv
        obtain ⟨zv9, yv9⟩ := hv
        refine ⟨by decide, _, rfl, by decide, _, rfl, zv9, _, yv9, ?_⟩
        exact ps_weak (pjX5_alone_131_15 h hh he) ⟨rfl, rfl, rfl, rfl, rfl, rfl, trivial⟩
    replace h := q_ifn hc6 h
    by_cases hc12 : x0 = 8
    · replace h := q_ifp hc12 h
      have eT : ps_tsel 31 144 6 13 #[45, 63, 105, 144, 144, 116, 144, 123] x0 = 136 := by
        rw [hc12]; decide +kernel
      refine ps_at_eq eT ?_
      refine sX5_alone_136 ?_
      refine ⟨by decide, ?_⟩
      exact ps_weak (pjX5_alone_175_15 h hh he) ⟨rfl, rfl, rfl, rfl, rfl, rfl, rfl, trivial⟩
    replace h := q_ifn hc12 h
    by_cases hc13 : x0 = 11
    · replace h := q_ifp hc13 h
      have eT : ps_tsel 31 144 6 13 #[45, 63, 105, 144, 144, 116, 144, 123] x0 = 147 := by
        rw [hc13]; decide +kernel
      refine ps_at_eq eT ?_
      refine sX5_alone_147 ?_
      refine ⟨by decide, ?_⟩
      exact ps_weak (pjX5_alone_175_15 h hh he) ⟨rfl, rfl, rfl, rfl, rfl, rfl, rfl, trivial⟩
    replace h := q_ifn hc13 h
    by_cases hc14 : x0 = 13
    · replace h := q_ifp hc14 h
      have eT : ps_tsel 31 144 6 13 #[45, 63, 105, 144, 144, 116, 144, 123] x0 = 154 := by
        rw [hc14]; decide +kernel
      refine ps_at_eq eT ?_
      refine sX5_alone_154 ?_
      refine rX11_clip rfl ?_
      refine ⟨by decide, ?_⟩
      exact ps_weak (pjX5_alone_175_15 h hh he) ⟨rfl, rfl, rfl, rfl, rfl, rfl, rfl, trivial⟩
    replace h := q_ifn hc14 h
    have eD : ps_tsel 31 144 6 13 #[45, 63, 105, 144, 144, 116, 144, 123] x0 = 175 := by
      refine q_tsd (by decide +kernel) (fun z h1 h2 => ?_)
      have hz : z = 6 ∨ z = 7 ∨ z = 8 ∨ z = 9 ∨ z = 10 ∨ z = 11 ∨ z = 12 ∨ z = 13 := by omega
      rcases hz with rfl | rfl | rfl | rfl | rfl | rfl | rfl | rfl
      · exact Or.inl (q_tsx (v := 6) (fun z => hc2 z))
      · exact Or.inl (q_tsx (v := 7) (fun z => hc6 z))
      · exact Or.inl (q_tsx (v := 8) (fun z => hc12 z))
      · exact Or.inr (by decide +kernel)
      · exact Or.inr (by decide +kernel)
      · exact Or.inl (q_tsx (v := 11) (fun z => hc13 z))
      · exact Or.inr (by decide +kernel)
      · exact Or.inl (q_tsx (v := 13) (fun z => hc14 z))
    refine ps_at_eq eD ?_
    exact ps_weak (pjX5_alone_175_15 h hh he) ⟨rfl, rfl, rfl, rfl, rfl, rfl, rfl, trivial⟩
noncomputable def fX5_alone (g : ps_G) (x0 : Int32) (x1 : Int32) (x2 : Int32) : Option (Int32) := Option.bind (q_lp (fun s => bX5_alone_15 g x0 x1 x2 (fX11_luma x2) s.1 s.2) (x2 &&& (-16777216 : Int32), (16 : Int32))) fun s17 => some s17
theorem rX5_alone {d : Nat} {Q : ps_Rs → ps_G → Prop} {g : ps_G} {x0 : Int32} {x1 : Int32} {x2 : Int32} {r : Int32} (h : fX5_alone g x0 x1 x2 = some r) (hk : Q (.inl (some (.int r))) g) : ps_Ok mX5_alone (d + 1) [.int x0, .int x1, .int x2] g Q := by
  unfold fX5_alone at h
  refine sX5_alone_0 ?_
  refine ⟨by decide, ?_⟩
  refine rX11_luma rfl ?_
  refine ⟨by decide, by decide, ?_⟩
  replace h := q_be h
  obtain ⟨s17, hl, h⟩ := h
  refine ps_weak (q_lp_ok hl (fun s => ps_At mX5_alone (d + 1) 15 [(0, .int x0), (1, .int x1), (2, .int x2), (3, .int s.1), (4, .int (fX11_luma x2)), (5, .int s.2)] [] g Q) (fun r => ps_At mX5_alone (d + 1) 189 [(3, .int r)] [] g Q) (fun s x hb hh he => pbX5_alone_15 hb hh he) ?_) ⟨rfl, rfl, rfl, rfl, rfl, rfl, trivial⟩
  refine (?_ : ps_At mX5_alone (d + 1) 189 [(3, .int s17)] [] g Q)
  refine sX5_alone_189 ?_
  cases h
  exact ⟨rfl, hk⟩
noncomputable def jX5_apply_17 (g : ps_G) : Option (ps_G) := some g
theorem pjX5_apply_17 {d : Nat} {Q : ps_Rs → ps_G → Prop} {g : ps_G}  {r : ps_G} (h : jX5_apply_17 g = some r) (hk : Q (.inl none) r) : ps_At mX5_apply (d + 2) 17 [] [] g Q := by
  unfold jX5_apply_17 at h
  refine sX5_apply_17 ?_
  cases h
  exact ⟨rfl, rfl, hk⟩
noncomputable def jX5_apply_361_62 (g : ps_G) (x0 : Nat) (x1 : Int32) (x2 : Int32) (x4 : Nat) (x7 : Int32) (x8 : Int32) : Option ((Int32 × ps_G) ⊕ (ps_G)) := some (.inl (x8 + (1 : Int32), g))
theorem pjX5_apply_361_62 {d : Nat} {Q : ps_Rs → ps_G → Prop} {g : ps_G} {x0 : Nat} {x1 : Int32} {x2 : Int32} {x4 : Nat} {x7 : Int32} {x8 : Int32} {x : (Int32 × ps_G) ⊕ (ps_G)} (h : jX5_apply_361_62 g x0 x1 x2 x4 x7 x8 = some x) (hh : ∀ s' : Int32 × ps_G, x = .inl s' → ps_At mX5_apply (d + 2) 62 [(0, .ref x0), (1, .int x1), (2, .int x2), (4, .ref x4), (7, .int x7), (8, .int s'.1)] [] s'.2 Q) (he : ∀ r' : ps_G, x = .inr r' → ps_At mX5_apply (d + 2) 367 [(0, .ref x0), (1, .int x1), (2, .int x2), (4, .ref x4), (7, .int x7)] [] r' Q) : ps_At mX5_apply (d + 2) 361 [(0, .ref x0), (1, .int x1), (2, .int x2), (4, .ref x4), (7, .int x7), (8, .int x8)] [] g Q := by
  unfold jX5_apply_361_62 at h
  refine sX5_apply_361 ?_
  refine ⟨by decide, ?_⟩
  exact ps_weak (hh (x8 + (1 : Int32), g) (Option.some.inj h).symm) ⟨rfl, rfl, rfl, rfl, rfl, rfl, trivial⟩
noncomputable def jX5_apply_279_62 (g : ps_G) (x0 : Nat) (x1 : Int32) (x2 : Int32) (x4 : Nat) (x7 : Int32) (x8 : Int32) (k0 : Nat) (k1 : Int32) (k2 : Int32) : Option ((Int32 × ps_G) ⊕ (ps_G)) := Option.bind (q_wI g k0 k1 k2) fun g46 => jX5_apply_361_62 g46 x0 x1 x2 x4 x7 x8
theorem pjX5_apply_279_62 {d : Nat} {Q : ps_Rs → ps_G → Prop} {g : ps_G} {x0 : Nat} {x1 : Int32} {x2 : Int32} {x4 : Nat} {x7 : Int32} {x8 : Int32} {k0 : Nat} {k1 : Int32} {k2 : Int32} {x : (Int32 × ps_G) ⊕ (ps_G)} (h : jX5_apply_279_62 g x0 x1 x2 x4 x7 x8 k0 k1 k2 = some x) (hh : ∀ s' : Int32 × ps_G, x = .inl s' → ps_At mX5_apply (d + 2) 62 [(0, .ref x0), (1, .int x1), (2, .int x2), (4, .ref x4), (7, .int x7), (8, .int s'.1)] [] s'.2 Q) (he : ∀ r' : ps_G, x = .inr r' → ps_At mX5_apply (d + 2) 367 [(0, .ref x0), (1, .int x1), (2, .int x2), (4, .ref x4), (7, .int x7)] [] r' Q) : ps_At mX5_apply (d + 2) 279 [(0, .ref x0), (1, .int x1), (2, .int x2), (4, .ref x4), (7, .int x7), (8, .int x8)] [.int k2, .int k1, .ref k0] g Q := by
  unfold jX5_apply_279_62 at h
  refine sX5_apply_279 ?_
  replace h := q_be h
  obtain ⟨g46, hv, h⟩ := h
  replace hv := q_wI_e hv
  obtain ⟨_, _, cg46, pg46, ig46, yg46⟩ := hv
  refine ⟨_, _, cg46, pg46, ig46, _, yg46, ?_⟩
  exact ps_weak (pjX5_apply_361_62 h hh he) ⟨rfl, rfl, rfl, rfl, rfl, rfl, trivial⟩
noncomputable def bX5_apply_62 (x0 : Nat) (x1 : Int32) (x2 : Int32) (x4 : Nat) (x7 : Int32) (x8 : Int32) (g : ps_G) : Option ((Int32 × ps_G) ⊕ (ps_G)) := Option.bind (q_fI 5 8 g x0) fun v10 => if v10 ≤ x8 then (some (.inr g)) else (Option.bind (q_fI 5 8 g x0) fun v13 => if x1 = 0 then (Option.bind (q_ob 5 g x0) fun u15 => Option.bind (fX5_soft g x0 x8 x7 x2) fun v16 => Option.bind (q_wI g x4 ((x7 * v13) + x8) v16) fun g17 => jX5_apply_361_62 g17 x0 x1 x2 x4 x7 x8) else (if x1 = 1 then (Option.bind (q_fR 5 7 g x0) fun v19 => Option.bind (v19) fun a20 => Option.bind (q_aI g a20 ((x7 * v13) + x8)) fun v21 => Option.bind (q_ob 5 g x0) fun u22 => Option.bind (fX5_soft g x0 x8 x7 (1 : Int32)) fun v23 => Option.bind (fX5_sharp g v21 v23 x2) fun v24 => Option.bind (q_wI g x4 ((x7 * v13) + x8) v24) fun g25 => jX5_apply_361_62 g25 x0 x1 x2 x4 x7 x8) else (if x1 = 2 then (Option.bind (q_ob 5 g x0) fun u27 => q_b2 (fX5_middle g x0 x8 x7) fun v28 g29 => Option.bind (q_wI g29 x4 ((x7 * v13) + x8) v28) fun g30 => jX5_apply_361_62 g30 x0 x1 x2 x4 x7 x8) else (if x1 = 3 then (Option.bind (q_ob 5 g x0) fun u32 => q_b2 (fX5_edges g x0 x8 x7) fun v33 g34 => Option.bind (q_wI g34 x4 ((x7 * v13) + x8) v33) fun g35 => jX5_apply_361_62 g35 x0 x1 x2 x4 x7 x8) else (if x1 = 4 then (Option.bind (q_ob 5 g x0) fun u37 => Option.bind (fX5_raised g x0 x8 x7) fun v38 => Option.bind (q_wI g x4 ((x7 * v13) + x8) v38) fun g39 => jX5_apply_361_62 g39 x0 x1 x2 x4 x7 x8) else (if x1 = 5 then (if x2 ≤ 0 then (Option.bind (q_fR 5 7 g x0) fun v43 => Option.bind (v43) fun a44 => Option.bind (q_aI g a44 ((x7 * v13) + x8)) fun v45 => jX5_apply_279_62 g x0 x1 x2 x4 x7 x8 x4 ((x7 * v13) + x8) v45) else (Option.bind (q_div x8 x2) fun v47 => Option.bind (q_div x7 x2) fun v48 => Option.bind (q_ob 5 g x0) fun u49 => Option.bind (fX5_near g x0 (v47 * x2) (v48 * x2)) fun v50 => jX5_apply_279_62 g x0 x1 x2 x4 x7 x8 x4 ((x7 * v13) + x8) v50)) else (if x1 = 9 then (Option.bind (q_fR 5 7 g x0) fun v54 => Option.bind (v54) fun a55 => Option.bind (q_aI g a55 ((x7 * v13) + x8)) fun v56 => Option.bind (fX5_grain g x8 x7 x2) fun v57 => Option.bind (q_wI g x4 ((x7 * v13) + x8) (fX5_lifted v56 v57)) fun g58 => jX5_apply_361_62 g58 x0 x1 x2 x4 x7 x8) else (if x1 = 10 then (Option.bind (q_ob 5 g x0) fun u60 => Option.bind (fX5_ownKernel g x0 x8 x7) fun v61 => Option.bind (q_wI g x4 ((x7 * v13) + x8) v61) fun g62 => jX5_apply_361_62 g62 x0 x1 x2 x4 x7 x8) else (if x1 = 12 then (Option.bind (q_fR 5 7 g x0) fun v64 => Option.bind (v64) fun a65 => Option.bind (q_aI g a65 ((x7 * v13) + x8)) fun v66 => Option.bind (fX5_hue g v66 x2) fun v67 => Option.bind (q_wI g x4 ((x7 * v13) + x8) v67) fun g68 => jX5_apply_361_62 g68 x0 x1 x2 x4 x7 x8) else (Option.bind (q_fR 5 7 g x0) fun v69 => Option.bind (v69) fun a70 => Option.bind (q_aI g a70 ((x7 * v13) + x8)) fun v71 => Option.bind (fX5_alone g x1 x2 v71) fun v72 => Option.bind (q_wI g x4 ((x7 * v13) + x8) v72) fun g73 => jX5_apply_361_62 g73 x0 x1 x2 x4 x7 x8))))))))))
theorem pbX5_apply_62 {d : Nat} {Q : ps_Rs → ps_G → Prop}  {x0 : Nat} {x1 : Int32} {x2 : Int32} {x4 : Nat} {x7 : Int32} {x8 : Int32} {g : ps_G} {x : (Int32 × ps_G) ⊕ (ps_G)} (h : bX5_apply_62 x0 x1 x2 x4 x7 x8 g = some x) (hh : ∀ s' : Int32 × ps_G, x = .inl s' → ps_At mX5_apply (d + 2) 62 [(0, .ref x0), (1, .int x1), (2, .int x2), (4, .ref x4), (7, .int x7), (8, .int s'.1)] [] s'.2 Q) (he : ∀ r' : ps_G, x = .inr r' → ps_At mX5_apply (d + 2) 367 [(0, .ref x0), (1, .int x1), (2, .int x2), (4, .ref x4), (7, .int x7)] [] r' Q) : ps_At mX5_apply (d + 2) 62 [(0, .ref x0), (1, .int x1), (2, .int x2), (4, .ref x4), (7, .int x7), (8, .int x8)] [] g Q := by
  unfold bX5_apply_62 at h
  refine sX5_apply_62 ?_
  replace h := q_be h
  obtain ⟨v10, hv, h⟩ := h
  replace hv := q_fI_e hv
  obtain ⟨_, cv10, dv10⟩ := hv
  refine ⟨⟨some _, rfl⟩, _, _, cv10, dv10, ?_⟩
  refine And.intro (fun hc11 => ?_) (fun hc11 => ?_)
  · replace h := q_ifp (hc11) h
    exact ps_weak (he g (Option.some.inj h).symm) ⟨rfl, rfl, rfl, rfl, rfl, trivial⟩
  · replace h := q_ifn (hc11) h
    replace h := q_be h
    obtain ⟨v13, hv, h⟩ := h
    replace hv := q_fI_e hv
    obtain ⟨_, cv13, dv13⟩ := hv
    refine ⟨⟨some _, rfl⟩, _, _, cv13, dv13, by decide, ?_⟩
    refine sX5_apply_84 ?_
    by_cases hc14 : x1 = 0
    · replace h := q_ifp hc14 h
      have eT : ps_tsel 84 260 0 12 #[68, 85, 113, 129, 145, 161, 260, 260, 260, 215, 199, 260, 241] x1 = 152 := by
        rw [hc14]; decide +kernel
      refine ps_at_eq eT ?_
      refine sX5_apply_152 ?_
      replace h := q_be h
      obtain ⟨u15, hv, h⟩ := h
      replace hv := q_ob_e hv
      obtain ⟨_, cu15⟩ := hv
      replace h := q_be h
      obtain ⟨v16, hv, h⟩ := h
      refine ⟨⟨some _, rfl⟩, ⟨some _, rfl⟩, ⟨_, cu15⟩, ?_⟩
      refine rX5_soft hv ?_
      replace h := q_be h
      obtain ⟨g17, hv, h⟩ := h
      replace hv := q_wI_e hv
      obtain ⟨_, _, cg17, pg17, ig17, yg17⟩ := hv
      refine ⟨_, _, cg17, pg17, ig17, _, yg17, ?_⟩
      exact ps_weak (pjX5_apply_361_62 h hh he) ⟨rfl, rfl, rfl, rfl, rfl, rfl, trivial⟩
    replace h := q_ifn hc14 h
    by_cases hc18 : x1 = 1
    · replace h := q_ifp hc18 h
      have eT : ps_tsel 84 260 0 12 #[68, 85, 113, 129, 145, 161, 260, 260, 260, 215, 199, 260, 241] x1 = 169 := by
        rw [hc18]; decide +kernel
      refine ps_at_eq eT ?_
      refine sX5_apply_169 ?_
      replace h := q_be h
      obtain ⟨v19, hv, h⟩ := h
      replace hv := q_fR_e hv
      obtain ⟨_, cv19, dv19⟩ := hv
      replace h := q_be h
      obtain ⟨a20, ea20, h⟩ := h
      subst ea20
      replace h := q_be h
      obtain ⟨v21, hv, h⟩ := h
      replace hv := q_aI_e hv
      obtain ⟨_, _, cv21, iv21, yv21⟩ := hv
      replace h := q_be h
      obtain ⟨u22, hv, h⟩ := h
      replace hv := q_ob_e hv
      obtain ⟨_, cu22⟩ := hv
      replace h := q_be h
      obtain ⟨v23, hv, h⟩ := h
      refine ⟨⟨some _, rfl⟩, ⟨some _, rfl⟩, _, _, cv19, dv19, _, _, cv21, iv21, _, yv21, ⟨some _, rfl⟩, ⟨_, cu22⟩, ?_⟩
      refine rX5_soft hv ?_
      replace h := q_be h
      obtain ⟨v24, hv, h⟩ := h
      refine rX5_sharp hv ?_
      replace h := q_be h
      obtain ⟨g25, hv, h⟩ := h
      replace hv := q_wI_e hv
      obtain ⟨_, _, cg25, pg25, ig25, yg25⟩ := hv
      refine ⟨_, _, cg25, pg25, ig25, _, yg25, ?_⟩
      exact ps_weak (pjX5_apply_361_62 h hh he) ⟨rfl, rfl, rfl, rfl, rfl, rfl, trivial⟩
    replace h := q_ifn hc18 h
    by_cases hc26 : x1 = 2
    · replace h := q_ifp hc26 h
      have eT : ps_tsel 84 260 0 12 #[68, 85, 113, 129, 145, 161, 260, 260, 260, 215, 199, 260, 241] x1 = 197 := by
        rw [hc26]; decide +kernel
      refine ps_at_eq eT ?_
      refine sX5_apply_197 ?_
      replace h := q_be h
      obtain ⟨u27, hv, h⟩ := h
      replace hv := q_ob_e hv
      obtain ⟨_, cu27⟩ := hv
      replace h := q_b2_e h
      obtain ⟨v28, g29, hv, h⟩ := h
      refine ⟨⟨some _, rfl⟩, ⟨some _, rfl⟩, ⟨_, cu27⟩, ?_⟩
      refine rX5_middle hv ?_
      replace h := q_be h
      obtain ⟨g30, hv, h⟩ := h
      replace hv := q_wI_e hv
      obtain ⟨_, _, cg30, pg30, ig30, yg30⟩ := hv
      refine ⟨_, _, cg30, pg30, ig30, _, yg30, ?_⟩
      exact ps_weak (pjX5_apply_361_62 h hh he) ⟨rfl, rfl, rfl, rfl, rfl, rfl, trivial⟩
    replace h := q_ifn hc26 h
    by_cases hc31 : x1 = 3
    · replace h := q_ifp hc31 h
      have eT : ps_tsel 84 260 0 12 #[68, 85, 113, 129, 145, 161, 260, 260, 260, 215, 199, 260, 241] x1 = 213 := by
        rw [hc31]; decide +kernel
      refine ps_at_eq eT ?_
      refine sX5_apply_213 ?_
      replace h := q_be h
      obtain ⟨u32, hv, h⟩ := h
      replace hv := q_ob_e hv
      obtain ⟨_, cu32⟩ := hv
      replace h := q_b2_e h
      obtain ⟨v33, g34, hv, h⟩ := h
      refine ⟨⟨some _, rfl⟩, ⟨some _, rfl⟩, ⟨_, cu32⟩, ?_⟩
      refine rX5_edges hv ?_
      replace h := q_be h
      obtain ⟨g35, hv, h⟩ := h
      replace hv := q_wI_e hv
      obtain ⟨_, _, cg35, pg35, ig35, yg35⟩ := hv
      refine ⟨_, _, cg35, pg35, ig35, _, yg35, ?_⟩
      exact ps_weak (pjX5_apply_361_62 h hh he) ⟨rfl, rfl, rfl, rfl, rfl, rfl, trivial⟩
    replace h := q_ifn hc31 h
    by_cases hc36 : x1 = 4
    · replace h := q_ifp hc36 h
      have eT : ps_tsel 84 260 0 12 #[68, 85, 113, 129, 145, 161, 260, 260, 260, 215, 199, 260, 241] x1 = 229 := by
        rw [hc36]; decide +kernel
      refine ps_at_eq eT ?_
      refine sX5_apply_229 ?_
      replace h := q_be h
      obtain ⟨u37, hv, h⟩ := h
      replace hv := q_ob_e hv
      obtain ⟨_, cu37⟩ := hv
      replace h := q_be h
      obtain ⟨v38, hv, h⟩ := h
      refine ⟨⟨some _, rfl⟩, ⟨some _, rfl⟩, ⟨_, cu37⟩, ?_⟩
      refine rX5_raised hv ?_
      replace h := q_be h
      obtain ⟨g39, hv, h⟩ := h
      replace hv := q_wI_e hv
      obtain ⟨_, _, cg39, pg39, ig39, yg39⟩ := hv
      refine ⟨_, _, cg39, pg39, ig39, _, yg39, ?_⟩
      exact ps_weak (pjX5_apply_361_62 h hh he) ⟨rfl, rfl, rfl, rfl, rfl, rfl, trivial⟩
    replace h := q_ifn hc36 h
    by_cases hc40 : x1 = 5
    · replace h := q_ifp hc40 h
      have eT : ps_tsel 84 260 0 12 #[68, 85, 113, 129, 145, 161, 260, 260, 260, 215, 199, 260, 241] x1 = 245 := by
        rw [hc40]; decide +kernel
      refine ps_at_eq eT ?_
      refine sX5_apply_245 ?_
      refine ⟨⟨some _, rfl⟩, ?_⟩
      refine And.intro (fun hc41 => ?_) (fun hc41 => ?_)
      · replace h := q_ifp (hc41) h
        refine sX5_apply_272 ?_
        replace h := q_be h
        obtain ⟨v43, hv, h⟩ := h
        replace hv := q_fR_e hv
        obtain ⟨_, cv43, dv43⟩ := hv
        replace h := q_be h
        obtain ⟨a44, ea44, h⟩ := h
        subst ea44
        replace h := q_be h
        obtain ⟨v45, hv, h⟩ := h
        replace hv := q_aI_e hv
        obtain ⟨_, _, cv45, iv45, yv45⟩ := hv
        refine ⟨⟨some _, rfl⟩, _, _, cv43, dv43, _, _, cv45, iv45, _, yv45, ?_⟩
        exact ps_weak (pjX5_apply_279_62 h hh he) ⟨rfl, rfl, rfl, rfl, rfl, rfl, trivial⟩
      · replace h := q_ifn (hc41) h
        replace h := q_be h
        obtain ⟨v47, hv, h⟩ := h
        replace hv := q_div_e hv
        obtain ⟨zv47, yv47⟩ := hv
        replace h := q_be h
        obtain ⟨v48, hv, h⟩ := h
        replace hv := q_div_e hv
        obtain ⟨zv48, yv48⟩ := hv
        replace h := q_be h
        obtain ⟨u49, hv, h⟩ := h
        replace hv := q_ob_e hv
        obtain ⟨_, cu49⟩ := hv
        replace h := q_be h
        obtain ⟨v50, hv, h⟩ := h
        refine ⟨⟨some _, rfl⟩, zv47, _, yv47, zv48, _, yv48, ⟨_, cu49⟩, ?_⟩
        refine rX5_near hv ?_
        exact ps_weak (pjX5_apply_279_62 h hh he) ⟨rfl, rfl, rfl, rfl, rfl, rfl, trivial⟩
    replace h := q_ifn hc40 h
    by_cases hc53 : x1 = 9
    · replace h := q_ifp hc53 h
      have eT : ps_tsel 84 260 0 12 #[68, 85, 113, 129, 145, 161, 260, 260, 260, 215, 199, 260, 241] x1 = 299 := by
        rw [hc53]; decide +kernel
      refine ps_at_eq eT ?_
      refine sX5_apply_299 ?_
      replace h := q_be h
      obtain ⟨v54, hv, h⟩ := h
      replace hv := q_fR_e hv
      obtain ⟨_, cv54, dv54⟩ := hv
      replace h := q_be h
      obtain ⟨a55, ea55, h⟩ := h
      subst ea55
      replace h := q_be h
      obtain ⟨v56, hv, h⟩ := h
      replace hv := q_aI_e hv
      obtain ⟨_, _, cv56, iv56, yv56⟩ := hv
      replace h := q_be h
      obtain ⟨v57, hv, h⟩ := h
      refine ⟨⟨some _, rfl⟩, ⟨some _, rfl⟩, _, _, cv54, dv54, _, _, cv56, iv56, _, yv56, ?_⟩
      refine rX5_grain hv ?_
      refine rX5_lifted rfl ?_
      replace h := q_be h
      obtain ⟨g58, hv, h⟩ := h
      replace hv := q_wI_e hv
      obtain ⟨_, _, cg58, pg58, ig58, yg58⟩ := hv
      refine ⟨_, _, cg58, pg58, ig58, _, yg58, ?_⟩
      exact ps_weak (pjX5_apply_361_62 h hh he) ⟨rfl, rfl, rfl, rfl, rfl, rfl, trivial⟩
    replace h := q_ifn hc53 h
    by_cases hc59 : x1 = 10
    · replace h := q_ifp hc59 h
      have eT : ps_tsel 84 260 0 12 #[68, 85, 113, 129, 145, 161, 260, 260, 260, 215, 199, 260, 241] x1 = 283 := by
        rw [hc59]; decide +kernel
      refine ps_at_eq eT ?_
      refine sX5_apply_283 ?_
      replace h := q_be h
      obtain ⟨u60, hv, h⟩ := h
      replace hv := q_ob_e hv
      obtain ⟨_, cu60⟩ := hv
      replace h := q_be h
      obtain ⟨v61, hv, h⟩ := h
      refine ⟨⟨some _, rfl⟩, ⟨some _, rfl⟩, ⟨_, cu60⟩, ?_⟩
      refine rX5_ownKernel hv ?_
      replace h := q_be h
      obtain ⟨g62, hv, h⟩ := h
      replace hv := q_wI_e hv
      obtain ⟨_, _, cg62, pg62, ig62, yg62⟩ := hv
      refine ⟨_, _, cg62, pg62, ig62, _, yg62, ?_⟩
      exact ps_weak (pjX5_apply_361_62 h hh he) ⟨rfl, rfl, rfl, rfl, rfl, rfl, trivial⟩
    replace h := q_ifn hc59 h
    by_cases hc63 : x1 = 12
    · replace h := q_ifp hc63 h
      have eT : ps_tsel 84 260 0 12 #[68, 85, 113, 129, 145, 161, 260, 260, 260, 215, 199, 260, 241] x1 = 325 := by
        rw [hc63]; decide +kernel
      refine ps_at_eq eT ?_
      refine sX5_apply_325 ?_
      replace h := q_be h
      obtain ⟨v64, hv, h⟩ := h
      replace hv := q_fR_e hv
      obtain ⟨_, cv64, dv64⟩ := hv
      replace h := q_be h
      obtain ⟨a65, ea65, h⟩ := h
      subst ea65
      replace h := q_be h
      obtain ⟨v66, hv, h⟩ := h
      replace hv := q_aI_e hv
      obtain ⟨_, _, cv66, iv66, yv66⟩ := hv
      replace h := q_be h
      obtain ⟨v67, hv, h⟩ := h
      refine ⟨⟨some _, rfl⟩, ⟨some _, rfl⟩, _, _, cv64, dv64, _, _, cv66, iv66, _, yv66, ?_⟩
      refine rX5_hue hv ?_
      replace h := q_be h
      obtain ⟨g68, hv, h⟩ := h
      replace hv := q_wI_e hv
      obtain ⟨_, _, cg68, pg68, ig68, yg68⟩ := hv
      refine ⟨_, _, cg68, pg68, ig68, _, yg68, ?_⟩
      exact ps_weak (pjX5_apply_361_62 h hh he) ⟨rfl, rfl, rfl, rfl, rfl, rfl, trivial⟩
    replace h := q_ifn hc63 h
    have eD : ps_tsel 84 260 0 12 #[68, 85, 113, 129, 145, 161, 260, 260, 260, 215, 199, 260, 241] x1 = 344 := by
      refine q_tsd (by decide +kernel) (fun z h1 h2 => ?_)
      have hz : z = 0 ∨ z = 1 ∨ z = 2 ∨ z = 3 ∨ z = 4 ∨ z = 5 ∨ z = 6 ∨ z = 7 ∨ z = 8 ∨ z = 9 ∨ z = 10 ∨ z = 11 ∨ z = 12 := by omega
      rcases hz with rfl | rfl | rfl | rfl | rfl | rfl | rfl | rfl | rfl | rfl | rfl | rfl | rfl
      · exact Or.inl (q_tsx (v := 0) (fun z => hc14 z))
      · exact Or.inl (q_tsx (v := 1) (fun z => hc18 z))
      · exact Or.inl (q_tsx (v := 2) (fun z => hc26 z))
      · exact Or.inl (q_tsx (v := 3) (fun z => hc31 z))
      · exact Or.inl (q_tsx (v := 4) (fun z => hc36 z))
      · exact Or.inl (q_tsx (v := 5) (fun z => hc40 z))
      · exact Or.inr (by decide +kernel)
      · exact Or.inr (by decide +kernel)
      · exact Or.inr (by decide +kernel)
      · exact Or.inl (q_tsx (v := 9) (fun z => hc53 z))
      · exact Or.inl (q_tsx (v := 10) (fun z => hc59 z))
      · exact Or.inr (by decide +kernel)
      · exact Or.inl (q_tsx (v := 12) (fun z => hc63 z))
    refine ps_at_eq eD ?_
    refine sX5_apply_344 ?_
    replace h := q_be h
    obtain ⟨v69, hv, h⟩ := h
    replace hv := q_fR_e hv
    obtain ⟨_, cv69, dv69⟩ := hv
    replace h := q_be h
    obtain ⟨a70, ea70, h⟩ := h
    subst ea70
    replace h := q_be h
    obtain ⟨v71, hv, h⟩ := h
    replace hv := q_aI_e hv
    obtain ⟨_, _, cv71, iv71, yv71⟩ := hv
    replace h := q_be h
    obtain ⟨v72, hv, h⟩ := h
    refine ⟨⟨some _, rfl⟩, ⟨some _, rfl⟩, _, _, cv69, dv69, _, _, cv71, iv71, _, yv71, ?_⟩
    refine rX5_alone hv ?_
    replace h := q_be h
    obtain ⟨g73, hv, h⟩ := h
    replace hv := q_wI_e hv
    obtain ⟨_, _, cg73, pg73, ig73, yg73⟩ := hv
    refine ⟨_, _, cg73, pg73, ig73, _, yg73, ?_⟩
    exact ps_weak (pjX5_apply_361_62 h hh he) ⟨rfl, rfl, rfl, rfl, rfl, rfl, trivial⟩
noncomputable def bX5_apply_50 (x0 : Nat) (x1 : Int32) (x2 : Int32) (x4 : Nat) (x7 : Int32) (g : ps_G) : Option ((Int32 × ps_G) ⊕ (ps_G)) := Option.bind (q_fI 5 9 g x0) fun v8 => if v8 ≤ x7 then (some (.inr g)) else (Option.bind (q_lp (fun s => bX5_apply_62 x0 x1 x2 x4 x7 s.1 s.2) ((0 : Int32), g)) fun s76 => some (.inl (x7 + (1 : Int32), s76)))
theorem pbX5_apply_50 {d : Nat} {Q : ps_Rs → ps_G → Prop}  {x0 : Nat} {x1 : Int32} {x2 : Int32} {x4 : Nat} {x7 : Int32} {g : ps_G} {x : (Int32 × ps_G) ⊕ (ps_G)} (h : bX5_apply_50 x0 x1 x2 x4 x7 g = some x) (hh : ∀ s' : Int32 × ps_G, x = .inl s' → ps_At mX5_apply (d + 2) 50 [(0, .ref x0), (1, .int x1), (2, .int x2), (4, .ref x4), (7, .int s'.1)] [] s'.2 Q) (he : ∀ r' : ps_G, x = .inr r' → ps_At mX5_apply (d + 2) 373 [] [] r' Q) : ps_At mX5_apply (d + 2) 50 [(0, .ref x0), (1, .int x1), (2, .int x2), (4, .ref x4), (7, .int x7)] [] g Q := by
  unfold bX5_apply_50 at h
  refine sX5_apply_50 ?_
  replace h := q_be h
  obtain ⟨v8, hv, h⟩ := h
  replace hv := q_fI_e hv
  obtain ⟨_, cv8, dv8⟩ := hv
  refine ⟨⟨some _, rfl⟩, _, _, cv8, dv8, ?_⟩
  refine And.intro (fun hc9 => ?_) (fun hc9 => ?_)
  · replace h := q_ifp (hc9) h
    exact ps_weak (he g (Option.some.inj h).symm) trivial
  · replace h := q_ifn (hc9) h
    refine ⟨by decide, ?_⟩
    replace h := q_be h
    obtain ⟨s76, hl, h⟩ := h
    refine ps_weak (q_lp_ok hl (fun s => ps_At mX5_apply (d + 2) 62 [(0, .ref x0), (1, .int x1), (2, .int x2), (4, .ref x4), (7, .int x7), (8, .int s.1)] [] s.2 Q) (fun r => ps_At mX5_apply (d + 2) 367 [(0, .ref x0), (1, .int x1), (2, .int x2), (4, .ref x4), (7, .int x7)] [] r Q) (fun s x hb hh he => pbX5_apply_62 hb hh he) ?_) ⟨rfl, rfl, rfl, rfl, rfl, rfl, trivial⟩
    refine (?_ : ps_At mX5_apply (d + 2) 367 [(0, .ref x0), (1, .int x1), (2, .int x2), (4, .ref x4), (7, .int x7)] [] s76 Q)
    refine sX5_apply_367 ?_
    refine ⟨by decide, ?_⟩
    exact ps_weak (hh (x7 + (1 : Int32), s76) (Option.some.inj h).symm) ⟨rfl, rfl, rfl, rfl, rfl, trivial⟩
noncomputable def fX5_apply (g : ps_G) (x0 : Nat) (x1 : Int32) (x2 : Int32) (x3 : Nat) (x4 : Nat) (x5 : Int32) (x6 : Int32) : Option (ps_G) := Option.bind (q_len g x3) fun v1 => if v1 < (576 : Int32) then (jX5_apply_17 g) else (Option.bind (q_len g x4) fun v3 => if (576 : Int32) ≤ v3 then (Option.bind (q_sR 5 7 g x0 (some x3)) fun g5 => Option.bind (q_sI 5 8 g5 x0 (fX11_within x5 (1 : Int32) (24 : Int32))) fun g6 => Option.bind (q_sI 5 9 g6 x0 (fX11_within x6 (1 : Int32) (24 : Int32))) fun g7 => Option.bind (q_lp (fun s => bX5_apply_50 x0 x1 x2 x4 s.1 s.2) ((0 : Int32), g7)) fun s79 => some s79) else (jX5_apply_17 g))
theorem rX5_apply {d : Nat} {Q : ps_Rs → ps_G → Prop} {g : ps_G} {x0 : Nat} {x1 : Int32} {x2 : Int32} {x3 : Nat} {x4 : Nat} {x5 : Int32} {x6 : Int32} {r : ps_G} (h : fX5_apply g x0 x1 x2 x3 x4 x5 x6 = some r) (hk : Q (.inl none) r) : ps_Ok mX5_apply (d + 2) [.ref x0, .int x1, .int x2, .ref x3, .ref x4, .int x5, .int x6] g Q := by
  unfold fX5_apply at h
  refine sX5_apply_0 ?_
  replace h := q_be h
  obtain ⟨v1, hv, h⟩ := h
  replace hv := q_len_e hv
  obtain ⟨_, _, cv1, qv1, yv1⟩ := hv
  refine ⟨⟨some _, rfl⟩, _, _, cv1, qv1, _, yv1, ?_⟩
  refine And.intro (fun hc2 => ?_) (fun hc2 => ?_)
  · replace h := q_ifp (hc2) h
    exact ps_weak (pjX5_apply_17 h hk) trivial
  · replace h := q_ifn (hc2) h
    replace h := q_be h
    obtain ⟨v3, hv, h⟩ := h
    replace hv := q_len_e hv
    obtain ⟨_, _, cv3, qv3, yv3⟩ := hv
    refine ⟨⟨some _, rfl⟩, _, _, cv3, qv3, _, yv3, ?_⟩
    refine And.intro (fun hc4 => ?_) (fun hc4 => ?_)
    · replace h := q_ifp (hc4) h
      refine sX5_apply_18 ?_
      replace h := q_be h
      obtain ⟨g5, hv, h⟩ := h
      replace hv := q_sR_e hv
      obtain ⟨_, cg5, dg5, yg5⟩ := hv
      refine ⟨⟨some _, rfl⟩, ⟨some _, rfl⟩, _, cg5, dg5, rfl, rfl, _, yg5, ⟨some _, rfl⟩, ?_⟩
      refine rX11_within rfl ?_
      replace h := q_be h
      obtain ⟨g6, hv, h⟩ := h
      replace hv := q_sI_e hv
      obtain ⟨_, cg6, dg6, yg6⟩ := hv
      refine ⟨_, cg6, dg6, rfl, rfl, _, yg6, ⟨some _, rfl⟩, ?_⟩
      refine rX11_within rfl ?_
      replace h := q_be h
      obtain ⟨g7, hv, h⟩ := h
      replace hv := q_sI_e hv
      obtain ⟨_, cg7, dg7, yg7⟩ := hv
      refine ⟨_, cg7, dg7, rfl, rfl, _, yg7, by decide, ?_⟩
      replace h := q_be h
      obtain ⟨s79, hl, h⟩ := h
      refine ps_weak (q_lp_ok hl (fun s => ps_At mX5_apply (d + 2) 50 [(0, .ref x0), (1, .int x1), (2, .int x2), (4, .ref x4), (7, .int s.1)] [] s.2 Q) (fun r => ps_At mX5_apply (d + 2) 373 [] [] r Q) (fun s x hb hh he => pbX5_apply_50 hb hh he) ?_) ⟨rfl, rfl, rfl, rfl, rfl, trivial⟩
      refine (?_ : ps_At mX5_apply (d + 2) 373 [] [] s79 Q)
      refine sX5_apply_373 ?_
      cases h
      exact ⟨rfl, rfl, hk⟩
    · replace h := q_ifn (hc4) h
      exact ps_weak (pjX5_apply_17 h hk) trivial
noncomputable def bX5_bent_23 (g : ps_G) (x0 : Nat) (x2 : Int32) (x3 : Int32) (x4 : Int32) (x5 : Int32) : Option ((Int32) ⊕ (Int32)) := if (x4 ≤ x5) ∨ ((8 : Int32) ≤ x5) then (some (.inr x5)) else (Option.bind (q_fR 5 0 g x0) fun v8 => Option.bind (v8) fun a9 => Option.bind (q_aI g a9 (x3 + x5)) fun v10 => if x2 < v10 then (some (.inr x5)) else (some (.inl (x5 + (1 : Int32)))))
theorem pbX5_bent_23 {d : Nat} {Q : ps_Rs → ps_G → Prop} {g : ps_G} {x0 : Nat} {x2 : Int32} {x3 : Int32} {x4 : Int32} {x5 : Int32} {x : (Int32) ⊕ (Int32)} (h : bX5_bent_23 g x0 x2 x3 x4 x5 = some x) (hh : ∀ s' : Int32, x = .inl s' → ps_At mX5_bent d 23 [(0, .ref x0), (2, .int x2), (3, .int x3), (4, .int x4), (5, .int s')] [] g Q) (he : ∀ r' : Int32, x = .inr r' → ps_At mX5_bent d 56 [(0, .ref x0), (2, .int x2), (3, .int x3), (4, .int x4), (5, .int r')] [] g Q) : ps_At mX5_bent d 23 [(0, .ref x0), (2, .int x2), (3, .int x3), (4, .int x4), (5, .int x5)] [] g Q := by
  unfold bX5_bent_23 at h
  refine sX5_bent_23 ?_
  have kT14 : (some (.inr x5)) = some x → ps_At mX5_bent d 56 [(0, .ref x0), (2, .int x2), (3, .int x3), (4, .int x4), (5, .int x5)] [] g Q := fun h => by
    exact ps_weak (he x5 (Option.some.inj h).symm) ⟨rfl, rfl, rfl, rfl, rfl, trivial⟩
  refine And.intro (fun hc5 => ?_) (fun hc5 => ?_)
  · exact ps_weak (kT14 (q_ifp (Or.inl hc5) h)) ⟨rfl, rfl, rfl, rfl, rfl, trivial⟩
  · refine And.intro (fun hc6 => ?_) (fun hc6 => ?_)
    · exact ps_weak (kT14 (q_ifp (Or.inr (hc6)) h)) ⟨rfl, rfl, rfl, rfl, rfl, trivial⟩
    · replace h := q_ifn (not_or.mpr ⟨hc5, hc6⟩) h
      replace h := q_be h
      obtain ⟨v8, hv, h⟩ := h
      replace hv := q_fR_e hv
      obtain ⟨_, cv8, dv8⟩ := hv
      replace h := q_be h
      obtain ⟨a9, ea9, h⟩ := h
      subst ea9
      replace h := q_be h
      obtain ⟨v10, hv, h⟩ := h
      replace hv := q_aI_e hv
      obtain ⟨_, _, cv10, iv10, yv10⟩ := hv
      refine ⟨⟨some _, rfl⟩, _, _, cv8, dv8, _, _, cv10, iv10, _, yv10, ?_⟩
      refine And.intro (fun hc11 => ?_) (fun hc11 => ?_)
      · replace h := q_ifp (hc11) h
        exact ps_weak (he x5 (Option.some.inj h).symm) ⟨rfl, rfl, rfl, rfl, rfl, trivial⟩
      · replace h := q_ifn (hc11) h
        refine ⟨by decide, ?_⟩
        exact ps_weak (hh (x5 + (1 : Int32)) (Option.some.inj h).symm) ⟨rfl, rfl, rfl, rfl, rfl, trivial⟩
noncomputable def jX5_bent_115 (g : ps_G) (x7 : Int32) : Option (Int32) := some x7
theorem pjX5_bent_115 {d : Nat} {Q : ps_Rs → ps_G → Prop} {g : ps_G} {x7 : Int32} {r : Int32} (h : jX5_bent_115 g x7 = some r) (hk : Q (.inl (some (.int r))) g) : ps_At mX5_bent d 115 [(7, .int x7)] [] g Q := by
  unfold jX5_bent_115 at h
  refine sX5_bent_115 ?_
  cases h
  exact ⟨rfl, hk⟩
noncomputable def jX5_bent_56 (g : ps_G) (x0 : Nat) (x2 : Int32) (x3 : Int32) (x4 : Int32) (x5 : Int32) : Option (Int32) := if ¬ x5 = 0 then (Option.bind (q_fR 5 0 g x0) fun v18 => Option.bind (v18) fun a19 => Option.bind (q_aI g a19 ((x3 + x5) - (1 : Int32))) fun v20 => Option.bind (q_fR 5 1 g x0) fun v21 => Option.bind (v21) fun a22 => Option.bind (q_aI g a22 ((x3 + x5) - (1 : Int32))) fun v23 => if x4 ≤ x5 then (jX5_bent_115 g v23) else (Option.bind (q_fR 5 0 g x0) fun v25 => Option.bind (v25) fun a26 => Option.bind (q_aI g a26 (x3 + x5)) fun v27 => if v20 < v27 then (Option.bind (q_fR 5 1 g x0) fun v29 => Option.bind (v29) fun a30 => Option.bind (q_aI g a30 (x3 + x5)) fun v31 => Option.bind (q_fR 5 0 g x0) fun v32 => Option.bind (v32) fun a33 => Option.bind (q_aI g a33 (x3 + x5)) fun v34 => Option.bind (q_div ((v31 - v23) * (x2 - v20)) (v34 - v20)) fun v35 => some (v23 + v35)) else (jX5_bent_115 g v23))) else (Option.bind (q_fR 5 1 g x0) fun v40 => Option.bind (v40) fun a41 => Option.bind (q_aI g a41 x3) fun v42 => some v42)
theorem pjX5_bent_56 {d : Nat} {Q : ps_Rs → ps_G → Prop} {g : ps_G} {x0 : Nat} {x2 : Int32} {x3 : Int32} {x4 : Int32} {x5 : Int32} {r : Int32} (h : jX5_bent_56 g x0 x2 x3 x4 x5 = some r) (hk : Q (.inl (some (.int r))) g) : ps_At mX5_bent d 56 [(0, .ref x0), (2, .int x2), (3, .int x3), (4, .int x4), (5, .int x5)] [] g Q := by
  unfold jX5_bent_56 at h
  refine sX5_bent_56 ?_
  refine And.intro (fun hc17 => ?_) (fun hc17 => ?_)
  · replace h := q_ifp (hc17) h
    refine sX5_bent_68 ?_
    replace h := q_be h
    obtain ⟨v18, hv, h⟩ := h
    replace hv := q_fR_e hv
    obtain ⟨_, cv18, dv18⟩ := hv
    replace h := q_be h
    obtain ⟨a19, ea19, h⟩ := h
    subst ea19
    replace h := q_be h
    obtain ⟨v20, hv, h⟩ := h
    replace hv := q_aI_e hv
    obtain ⟨_, _, cv20, iv20, yv20⟩ := hv
    replace h := q_be h
    obtain ⟨v21, hv, h⟩ := h
    replace hv := q_fR_e hv
    obtain ⟨_, cv21, dv21⟩ := hv
    replace h := q_be h
    obtain ⟨a22, ea22, h⟩ := h
    subst ea22
    replace h := q_be h
    obtain ⟨v23, hv, h⟩ := h
    replace hv := q_aI_e hv
    obtain ⟨_, _, cv23, iv23, yv23⟩ := hv
    refine ⟨⟨some _, rfl⟩, _, _, cv18, dv18, _, _, cv20, iv20, _, yv20, by decide, ⟨some _, rfl⟩, _, _, cv21, dv21, _, _, cv23, iv23, _, yv23, by decide, ?_⟩
    refine And.intro (fun hc24 => ?_) (fun hc24 => ?_)
    · replace h := q_ifp (hc24) h
      exact ps_weak (pjX5_bent_115 h hk) ⟨rfl, trivial⟩
    · replace h := q_ifn (hc24) h
      replace h := q_be h
      obtain ⟨v25, hv, h⟩ := h
      replace hv := q_fR_e hv
      obtain ⟨_, cv25, dv25⟩ := hv
      replace h := q_be h
      obtain ⟨a26, ea26, h⟩ := h
      subst ea26
      replace h := q_be h
      obtain ⟨v27, hv, h⟩ := h
      replace hv := q_aI_e hv
      obtain ⟨_, _, cv27, iv27, yv27⟩ := hv
      refine ⟨⟨some _, rfl⟩, _, _, cv25, dv25, _, _, cv27, iv27, _, yv27, ?_⟩
      refine And.intro (fun hc28 => ?_) (fun hc28 => ?_)
      · replace h := q_ifp (hc28) h
        refine sX5_bent_118 ?_
        replace h := q_be h
        obtain ⟨v29, hv, h⟩ := h
        replace hv := q_fR_e hv
        obtain ⟨_, cv29, dv29⟩ := hv
        replace h := q_be h
        obtain ⟨a30, ea30, h⟩ := h
        subst ea30
        replace h := q_be h
        obtain ⟨v31, hv, h⟩ := h
        replace hv := q_aI_e hv
        obtain ⟨_, _, cv31, iv31, yv31⟩ := hv
        replace h := q_be h
        obtain ⟨v32, hv, h⟩ := h
        replace hv := q_fR_e hv
        obtain ⟨_, cv32, dv32⟩ := hv
        replace h := q_be h
        obtain ⟨a33, ea33, h⟩ := h
        subst ea33
        replace h := q_be h
        obtain ⟨v34, hv, h⟩ := h
        replace hv := q_aI_e hv
        obtain ⟨_, _, cv34, iv34, yv34⟩ := hv
        replace h := q_be h
        obtain ⟨v35, hv, h⟩ := h
        replace hv := q_div_e hv
        obtain ⟨zv35, yv35⟩ := hv
        cases h
        exact ⟨⟨some _, rfl⟩, _, _, cv29, dv29, _, _, cv31, iv31, _, yv31, ⟨some _, rfl⟩, _, _, cv32, dv32, _, _, cv34, iv34, _, yv34, zv35, _, yv35, rfl, hk⟩
      · replace h := q_ifn (hc28) h
        exact ps_weak (pjX5_bent_115 h hk) ⟨rfl, trivial⟩
  · replace h := q_ifn (hc17) h
    replace h := q_be h
    obtain ⟨v40, hv, h⟩ := h
    replace hv := q_fR_e hv
    obtain ⟨_, cv40, dv40⟩ := hv
    replace h := q_be h
    obtain ⟨a41, ea41, h⟩ := h
    subst ea41
    replace h := q_be h
    obtain ⟨v42, hv, h⟩ := h
    replace hv := q_aI_e hv
    obtain ⟨_, _, cv42, iv42, yv42⟩ := hv
    cases h
    exact ⟨⟨some _, rfl⟩, _, _, cv40, dv40, _, _, cv42, iv42, _, yv42, rfl, hk⟩
noncomputable def fX5_bent (g : ps_G) (x0 : Nat) (x1 : Int32) (x2 : Int32) : Option (Int32) := Option.bind (q_fR 5 2 g x0) fun v1 => Option.bind (v1) fun a2 => Option.bind (q_aI g a2 x1) fun v3 => if 0 < v3 then (Option.bind (q_lp (fun s => bX5_bent_23 g x0 x2 (x1 * (8 : Int32)) v3 s) (0 : Int32)) fun s16 => jX5_bent_56 g x0 x2 (x1 * (8 : Int32)) v3 s16) else (some x2)
theorem rX5_bent {d : Nat} {Q : ps_Rs → ps_G → Prop} {g : ps_G} {x0 : Nat} {x1 : Int32} {x2 : Int32} {r : Int32} (h : fX5_bent g x0 x1 x2 = some r) (hk : Q (.inl (some (.int r))) g) : ps_Ok mX5_bent d [.ref x0, .int x1, .int x2] g Q := by
  unfold fX5_bent at h
  refine sX5_bent_0 ?_
  replace h := q_be h
  obtain ⟨v1, hv, h⟩ := h
  replace hv := q_fR_e hv
  obtain ⟨_, cv1, dv1⟩ := hv
  replace h := q_be h
  obtain ⟨a2, ea2, h⟩ := h
  subst ea2
  replace h := q_be h
  obtain ⟨v3, hv, h⟩ := h
  replace hv := q_aI_e hv
  obtain ⟨_, _, cv3, iv3, yv3⟩ := hv
  refine ⟨by decide, ⟨some _, rfl⟩, _, _, cv1, dv1, _, _, cv3, iv3, _, yv3, by decide, ?_⟩
  refine And.intro (fun hc4 => ?_) (fun hc4 => ?_)
  · replace h := q_ifp (hc4) h
    refine sX5_bent_20 ?_
    refine ⟨by decide, ?_⟩
    replace h := q_be h
    obtain ⟨s16, hl, h⟩ := h
    refine ps_weak (q_lp_ok hl (fun s => ps_At mX5_bent d 23 [(0, .ref x0), (2, .int x2), (3, .int (x1 * (8 : Int32))), (4, .int v3), (5, .int s)] [] g Q) (fun r => ps_At mX5_bent d 56 [(0, .ref x0), (2, .int x2), (3, .int (x1 * (8 : Int32))), (4, .int v3), (5, .int r)] [] g Q) (fun s x hb hh he => pbX5_bent_23 hb hh he) ?_) ⟨rfl, rfl, rfl, rfl, rfl, trivial⟩
    refine (?_ : ps_At mX5_bent d 56 [(0, .ref x0), (2, .int x2), (3, .int (x1 * (8 : Int32))), (4, .int v3), (5, .int s16)] [] g Q)
    exact ps_weak (pjX5_bent_56 h hk) ⟨rfl, rfl, rfl, rfl, rfl, trivial⟩
  · replace h := q_ifn (hc4) h
    cases h
    exact ⟨rfl, hk⟩
noncomputable def fX5_byCurve (g : ps_G) (x0 : Nat) (x1 : Int32) (x2 : Int32) : Option (Int32) := Option.bind (q_ob 5 g x0) fun u1 => Option.bind (fX5_bent g x0 ((fX11_within x1 (0 : Int32) (7 : Int32)) * (4 : Int32)) (fX11_red x2)) fun v2 => Option.bind (q_ob 5 g x0) fun u3 => Option.bind (fX5_bent g x0 (((fX11_within x1 (0 : Int32) (7 : Int32)) * (4 : Int32)) + (3 : Int32)) v2) fun v4 => Option.bind (q_ob 5 g x0) fun u5 => Option.bind (fX5_bent g x0 (((fX11_within x1 (0 : Int32) (7 : Int32)) * (4 : Int32)) + (1 : Int32)) (fX11_green x2)) fun v6 => Option.bind (q_ob 5 g x0) fun u7 => Option.bind (fX5_bent g x0 (((fX11_within x1 (0 : Int32) (7 : Int32)) * (4 : Int32)) + (3 : Int32)) v6) fun v8 => Option.bind (q_ob 5 g x0) fun u9 => Option.bind (fX5_bent g x0 (((fX11_within x1 (0 : Int32) (7 : Int32)) * (4 : Int32)) + (2 : Int32)) (fX11_blue x2)) fun v10 => Option.bind (q_ob 5 g x0) fun u11 => Option.bind (fX5_bent g x0 (((fX11_within x1 (0 : Int32) (7 : Int32)) * (4 : Int32)) + (3 : Int32)) v10) fun v12 => some (fX11_pack (q_ush x2 (24 : Int32)) v4 v8 v12)
theorem rX5_byCurve {d : Nat} {Q : ps_Rs → ps_G → Prop} {g : ps_G} {x0 : Nat} {x1 : Int32} {x2 : Int32} {r : Int32} (h : fX5_byCurve g x0 x1 x2 = some r) (hk : Q (.inl (some (.int r))) g) : ps_Ok mX5_byCurve (d + 1) [.ref x0, .int x1, .int x2] g Q := by
  unfold fX5_byCurve at h
  refine sX5_byCurve_0 ?_
  refine rX11_within rfl ?_
  refine ⟨by decide, ⟨some _, rfl⟩, ⟨some _, rfl⟩, ?_⟩
  refine rX11_red rfl ?_
  replace h := q_be h
  obtain ⟨u1, hv, h⟩ := h
  replace hv := q_ob_e hv
  obtain ⟨_, cu1⟩ := hv
  replace h := q_be h
  obtain ⟨v2, hv, h⟩ := h
  refine ⟨⟨_, cu1⟩, ?_⟩
  refine rX5_bent hv ?_
  replace h := q_be h
  obtain ⟨u3, hv, h⟩ := h
  replace hv := q_ob_e hv
  obtain ⟨_, cu3⟩ := hv
  replace h := q_be h
  obtain ⟨v4, hv, h⟩ := h
  refine ⟨⟨_, cu3⟩, ?_⟩
  refine rX5_bent hv ?_
  refine sX5_byCurve_26 ?_
  refine ⟨by decide, ⟨some _, rfl⟩, ⟨some _, rfl⟩, ?_⟩
  refine rX11_green rfl ?_
  replace h := q_be h
  obtain ⟨u5, hv, h⟩ := h
  replace hv := q_ob_e hv
  obtain ⟨_, cu5⟩ := hv
  replace h := q_be h
  obtain ⟨v6, hv, h⟩ := h
  refine ⟨⟨_, cu5⟩, ?_⟩
  refine rX5_bent hv ?_
  replace h := q_be h
  obtain ⟨u7, hv, h⟩ := h
  replace hv := q_ob_e hv
  obtain ⟨_, cu7⟩ := hv
  replace h := q_be h
  obtain ⟨v8, hv, h⟩ := h
  refine ⟨⟨_, cu7⟩, ?_⟩
  refine rX5_bent hv ?_
  refine ⟨by decide, ⟨some _, rfl⟩, ⟨some _, rfl⟩, ?_⟩
  refine rX11_blue rfl ?_
  replace h := q_be h
  obtain ⟨u9, hv, h⟩ := h
  replace hv := q_ob_e hv
  obtain ⟨_, cu9⟩ := hv
  replace h := q_be h
  obtain ⟨v10, hv, h⟩ := h
  refine ⟨⟨_, cu9⟩, ?_⟩
  refine rX5_bent hv ?_
  replace h := q_be h
  obtain ⟨u11, hv, h⟩ := h
  replace hv := q_ob_e hv
  obtain ⟨_, cu11⟩ := hv
  replace h := q_be h
  obtain ⟨v12, hv, h⟩ := h
  refine ⟨⟨_, cu11⟩, ?_⟩
  refine rX5_bent hv ?_
  refine sX5_byCurve_66 ?_
  refine ⟨by decide, ?_⟩
  refine rX11_pack rfl ?_
  cases h
  exact ⟨rfl, hk⟩
noncomputable def jX4_maskAt_25 (g : ps_G) (k0 : Int32) : Option (Int32) := some k0
theorem pjX4_maskAt_25 {d : Nat} {Q : ps_Rs → ps_G → Prop} {g : ps_G} {k0 : Int32} {r : Int32} (h : jX4_maskAt_25 g k0 = some r) (hk : Q (.inl (some (.int r))) g) : ps_At mX4_maskAt d 25 [] [.int k0] g Q := by
  unfold jX4_maskAt_25 at h
  refine sX4_maskAt_25 ?_
  cases h
  exact ⟨rfl, hk⟩
noncomputable def jX4_maskAt_22 (g : ps_G) : Option (Int32) := jX4_maskAt_25 g (255 : Int32)
theorem pjX4_maskAt_22 {d : Nat} {Q : ps_Rs → ps_G → Prop} {g : ps_G}  {r : Int32} (h : jX4_maskAt_22 g = some r) (hk : Q (.inl (some (.int r))) g) : ps_At mX4_maskAt d 22 [] [] g Q := by
  unfold jX4_maskAt_22 at h
  refine sX4_maskAt_22 ?_
  exact ps_weak (pjX4_maskAt_25 h hk) trivial
noncomputable def fX4_maskAt (g : ps_G) (x0 : Nat) (x1 : Int32) : Option (Int32) := if x1 < 0 then (jX4_maskAt_22 g) else (Option.bind (q_fR 4 16 g x0) fun v2 => Option.bind (v2) fun a3 => Option.bind (q_len g a3) fun v4 => if v4 ≤ x1 then (jX4_maskAt_22 g) else (Option.bind (q_fR 4 16 g x0) fun v6 => Option.bind (v6) fun a7 => Option.bind (q_aI g a7 x1) fun v8 => jX4_maskAt_25 g v8))
theorem rX4_maskAt {d : Nat} {Q : ps_Rs → ps_G → Prop} {g : ps_G} {x0 : Nat} {x1 : Int32} {r : Int32} (h : fX4_maskAt g x0 x1 = some r) (hk : Q (.inl (some (.int r))) g) : ps_Ok mX4_maskAt d [.ref x0, .int x1] g Q := by
  unfold fX4_maskAt at h
  refine sX4_maskAt_0 ?_
  refine And.intro (fun hc1 => ?_) (fun hc1 => ?_)
  · replace h := q_ifp (hc1) h
    exact ps_weak (pjX4_maskAt_22 h hk) trivial
  · replace h := q_ifn (hc1) h
    replace h := q_be h
    obtain ⟨v2, hv, h⟩ := h
    replace hv := q_fR_e hv
    obtain ⟨_, cv2, dv2⟩ := hv
    replace h := q_be h
    obtain ⟨a3, ea3, h⟩ := h
    subst ea3
    replace h := q_be h
    obtain ⟨v4, hv, h⟩ := h
    replace hv := q_len_e hv
    obtain ⟨_, _, cv4, qv4, yv4⟩ := hv
    refine ⟨⟨some _, rfl⟩, _, _, cv2, dv2, _, _, cv4, qv4, _, yv4, ?_⟩
    refine And.intro (fun hc5 => ?_) (fun hc5 => ?_)
    · replace h := q_ifp (hc5) h
      exact ps_weak (pjX4_maskAt_22 h hk) trivial
    · replace h := q_ifn (hc5) h
      replace h := q_be h
      obtain ⟨v6, hv, h⟩ := h
      replace hv := q_fR_e hv
      obtain ⟨_, cv6, dv6⟩ := hv
      replace h := q_be h
      obtain ⟨a7, ea7, h⟩ := h
      subst ea7
      replace h := q_be h
      obtain ⟨v8, hv, h⟩ := h
      replace hv := q_aI_e hv
      obtain ⟨_, _, cv8, iv8, yv8⟩ := hv
      refine ⟨⟨some _, rfl⟩, _, _, cv6, dv6, _, _, cv8, iv8, _, yv8, ?_⟩
      exact ps_weak (pjX4_maskAt_25 h hk) trivial
def fX11_mul (x0 : Int32) (x1 : Int32) : Int32 := ((x0 * x1) + (127 : Int32)) / (255 : Int32)
theorem rX11_mul {d : Nat} {Q : ps_Rs → ps_G → Prop} {g : ps_G} {x0 : Int32} {x1 : Int32} {r : Int32} (h : fX11_mul x0 x1 = r) (hk : Q (.inl (some (.int r))) g) : ps_Ok mX11_mul d [.int x0, .int x1] g Q := by
  unfold fX11_mul at h
  refine sX11_mul_0 ?_
  subst h
  exact ⟨by decide, _, rfl, rfl, hk⟩
def fX11_mix (x0 : Int32) (x1 : Int32) (x2 : Int32) : Int32 := (((x0 * ((255 : Int32) - x2)) + (x1 * x2)) + (127 : Int32)) / (255 : Int32)
theorem rX11_mix {d : Nat} {Q : ps_Rs → ps_G → Prop} {g : ps_G} {x0 : Int32} {x1 : Int32} {x2 : Int32} {r : Int32} (h : fX11_mix x0 x1 x2 = r) (hk : Q (.inl (some (.int r))) g) : ps_Ok mX11_mix d [.int x0, .int x1, .int x2] g Q := by
  unfold fX11_mix at h
  refine sX11_mix_0 ?_
  subst h
  exact ⟨by decide, _, rfl, rfl, hk⟩
