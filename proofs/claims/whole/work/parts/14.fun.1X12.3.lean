noncomputable def jX12_step_169 (g : ps_G) (x0 : Nat) (x1 : Int32) (x2 : Int32) (x3 : Int32) (x4 : Int32) (x6 : Int32) (k0 : Int32) : Option (Int32 × ps_G) := Option.bind (q_sI 12 0 g x0 (if k0 = 0 then (if ¬ x6 = (40 : Int32) then (0 : Int32) else (3 : Int32)) else (2 : Int32))) fun g19 => Option.bind (q_fI 12 0 g19 x0) fun v20 => if v20 ≤ 0 then (Option.bind (q_fR 12 49 g19 x0) fun v22 => Option.bind (v22) fun a23 => Option.bind (q_wI g19 a23 (((40 : Int32) * x1) + x6) x2) fun g24 => Option.bind (q_fR 12 50 g24 x0) fun v25 => Option.bind (v25) fun a26 => Option.bind (q_wI g24 a26 (((40 : Int32) * x1) + x6) x3) fun g27 => Option.bind (q_fR 12 51 g27 x0) fun v28 => Option.bind (v28) fun a29 => Option.bind (q_wI g27 a29 (((40 : Int32) * x1) + x6) x4) fun g30 => Option.bind (q_fR 12 48 g30 x0) fun v31 => Option.bind (v31) fun a32 => Option.bind (q_aI g30 a32 x1) fun v33 => Option.bind (q_wI g30 a32 x1 (v33 + (1 : Int32))) fun g34 => Option.bind (q_fR 12 48 g34 x0) fun v35 => Option.bind (v35) fun a36 => Option.bind (q_aI g34 a36 x1) fun v37 => some (v37, g34)) else (some ((0 : Int32), g19))
theorem pjX12_step_169 {d : Nat} {Q : ps_Rs → ps_G → Prop} {g : ps_G} {x0 : Nat} {x1 : Int32} {x2 : Int32} {x3 : Int32} {x4 : Int32} {x6 : Int32} {k0 : Int32} {r : Int32 × ps_G} (h : jX12_step_169 g x0 x1 x2 x3 x4 x6 k0 = some r) (hk : Q (.inl (some (.int r.1))) r.2) : ps_At mX12_step (d + 1) 169 [(0, .ref x0), (1, .int x1), (2, .int x2), (3, .int x3), (4, .int x4), (6, .int x6)] [.int k0] g Q := by
  unfold jX12_step_169 at h
  refine sX12_step_169 ?_
  have kJ18 : ∀ w17 : Int32, w17 = (if k0 = 0 then (if ¬ x6 = (40 : Int32) then (0 : Int32) else (3 : Int32)) else (2 : Int32)) → ps_At mX12_step (d + 1) 193 [(0, .ref x0), (1, .int x1), (2, .int x2), (3, .int x3), (4, .int x4), (6, .int x6)] [.int w17, .ref x0] g Q := by
    rintro _ rfl
    refine sX12_step_193 ?_
    replace h := q_be h
    obtain ⟨g19, hv, h⟩ := h
    replace hv := q_sI_e hv
    obtain ⟨_, cg19, dg19, yg19⟩ := hv
    replace h := q_be h
    obtain ⟨v20, hv, h⟩ := h
    replace hv := q_fI_e hv
    obtain ⟨_, cv20, dv20⟩ := hv
    refine ⟨_, cg19, dg19, rfl, rfl, _, yg19, ⟨some _, rfl⟩, _, _, cv20, dv20, ?_⟩
    refine And.intro (fun hc21 => ?_) (fun hc21 => ?_)
    · replace h := q_ifp (hc21) h
      refine sX12_step_205 ?_
      replace h := q_be h
      obtain ⟨v22, hv, h⟩ := h
      replace hv := q_fR_e hv
      obtain ⟨_, cv22, dv22⟩ := hv
      replace h := q_be h
      obtain ⟨a23, ea23, h⟩ := h
      subst ea23
      replace h := q_be h
      obtain ⟨g24, hv, h⟩ := h
      replace hv := q_wI_e hv
      obtain ⟨_, _, cg24, pg24, ig24, yg24⟩ := hv
      replace h := q_be h
      obtain ⟨v25, hv, h⟩ := h
      replace hv := q_fR_e hv
      obtain ⟨_, cv25, dv25⟩ := hv
      replace h := q_be h
      obtain ⟨a26, ea26, h⟩ := h
      subst ea26
      replace h := q_be h
      obtain ⟨g27, hv, h⟩ := h
      replace hv := q_wI_e hv
      obtain ⟨_, _, cg27, pg27, ig27, yg27⟩ := hv
      replace h := q_be h
      obtain ⟨v28, hv, h⟩ := h
      replace hv := q_fR_e hv
      obtain ⟨_, cv28, dv28⟩ := hv
      replace h := q_be h
      obtain ⟨a29, ea29, h⟩ := h
      subst ea29
      replace h := q_be h
      obtain ⟨g30, hv, h⟩ := h
      replace hv := q_wI_e hv
      obtain ⟨_, _, cg30, pg30, ig30, yg30⟩ := hv
      replace h := q_be h
      obtain ⟨v31, hv, h⟩ := h
      replace hv := q_fR_e hv
      obtain ⟨_, cv31, dv31⟩ := hv
      replace h := q_be h
      obtain ⟨a32, ea32, h⟩ := h
      subst ea32
      refine ⟨⟨some _, rfl⟩, _, _, cv22, dv22, _, _, cg24, pg24, ig24, _, yg24, ⟨some _, rfl⟩, _, _, cv25, dv25, _, _, cg27, pg27, ig27, _, yg27, ⟨some _, rfl⟩, _, _, cv28, dv28, _, _, cg30, pg30, ig30, _, yg30, ⟨some _, rfl⟩, _, _, cv31, dv31, ?_⟩
      replace h := q_be h
      obtain ⟨v33, hv, h⟩ := h
      replace hv := q_aI_e hv
      obtain ⟨_, _, cv33, iv33, yv33⟩ := hv
      replace h := q_be h
      obtain ⟨g34, hv, h⟩ := h
      replace hv := q_wI_e hv
      obtain ⟨_, _, cg34, pg34, ig34, yg34⟩ := hv
      replace h := q_be h
      obtain ⟨v35, hv, h⟩ := h
      replace hv := q_fR_e hv
      obtain ⟨_, cv35, dv35⟩ := hv
      replace h := q_be h
      obtain ⟨a36, ea36, h⟩ := h
      subst ea36
      replace h := q_be h
      obtain ⟨v37, hv, h⟩ := h
      replace hv := q_aI_e hv
      obtain ⟨_, _, cv37, iv37, yv37⟩ := hv
      cases h
      exact ⟨rfl, rfl, _, _, cv33, iv33, _, yv33, _, _, cg34, pg34, ig34, _, yg34, ⟨some _, rfl⟩, _, _, cv35, dv35, _, _, cv37, iv37, _, yv37, rfl, hk⟩
    · replace h := q_ifn (hc21) h
      cases h
      exact ⟨rfl, hk⟩
  refine ⟨by decide, ⟨some _, rfl⟩, ?_⟩
  refine And.intro (fun hc16 => ?_) (fun hc16 => ?_)
  · refine sX12_step_181 ?_
    have kJ42 : ∀ w41 : Int32, w41 = (if ¬ x6 = (40 : Int32) then (0 : Int32) else (3 : Int32)) → ps_At mX12_step (d + 1) 193 [(0, .ref x0), (1, .int x1), (2, .int x2), (3, .int x3), (4, .int x4), (6, .int x6)] [.int w41, .ref x0] g Q := by
      rintro _ rfl
      exact ps_weak (kJ18 _ (if_pos (hc16)).symm) ⟨rfl, rfl, rfl, rfl, rfl, rfl, trivial⟩
    refine And.intro (fun hc40 => ?_) (fun hc40 => ?_)
    · refine sX12_step_192 ?_
      exact ps_weak (kJ42 _ (if_pos (hc40)).symm) ⟨rfl, rfl, rfl, rfl, rfl, rfl, trivial⟩
    · exact ps_weak (kJ42 _ (if_neg (hc40)).symm) ⟨rfl, rfl, rfl, rfl, rfl, rfl, trivial⟩
  · exact ps_weak (kJ18 _ (if_neg (hc16)).symm) ⟨rfl, rfl, rfl, rfl, rfl, rfl, trivial⟩
noncomputable def jX12_step_164 (g : ps_G) (x0 : Nat) (x1 : Int32) (x2 : Int32) (x3 : Int32) (x4 : Int32) (x6 : Int32) : Option (Int32 × ps_G) := jX12_step_169 g x0 x1 x2 x3 x4 x6 (1 : Int32)
theorem pjX12_step_164 {d : Nat} {Q : ps_Rs → ps_G → Prop} {g : ps_G} {x0 : Nat} {x1 : Int32} {x2 : Int32} {x3 : Int32} {x4 : Int32} {x6 : Int32} {r : Int32 × ps_G} (h : jX12_step_164 g x0 x1 x2 x3 x4 x6 = some r) (hk : Q (.inl (some (.int r.1))) r.2) : ps_At mX12_step (d + 1) 164 [(0, .ref x0), (1, .int x1), (2, .int x2), (3, .int x3), (4, .int x4), (6, .int x6)] [] g Q := by
  unfold jX12_step_164 at h
  refine sX12_step_164 ?_
  exact ps_weak (pjX12_step_169 h hk) ⟨rfl, rfl, rfl, rfl, rfl, rfl, trivial⟩
noncomputable def jX12_step_155 (g : ps_G) (x0 : Nat) (x1 : Int32) (x2 : Int32) (x3 : Int32) (x4 : Int32) (x6 : Int32) (x7 : Int32) : Option (Int32 × ps_G) := if (¬ x2 = 0) ∨ (x7 = 0) then (jX12_step_169 g x0 x1 x2 x3 x4 x6 (0 : Int32)) else (jX12_step_164 g x0 x1 x2 x3 x4 x6)
theorem pjX12_step_155 {d : Nat} {Q : ps_Rs → ps_G → Prop} {g : ps_G} {x0 : Nat} {x1 : Int32} {x2 : Int32} {x3 : Int32} {x4 : Int32} {x6 : Int32} {x7 : Int32} {r : Int32 × ps_G} (h : jX12_step_155 g x0 x1 x2 x3 x4 x6 x7 = some r) (hk : Q (.inl (some (.int r.1))) r.2) : ps_At mX12_step (d + 1) 155 [(0, .ref x0), (1, .int x1), (2, .int x2), (3, .int x3), (4, .int x4), (6, .int x6), (7, .int x7)] [] g Q := by
  unfold jX12_step_155 at h
  refine sX12_step_155 ?_
  have kT43 : (jX12_step_169 g x0 x1 x2 x3 x4 x6 (0 : Int32)) = some r → ps_At mX12_step (d + 1) 168 [(0, .ref x0), (1, .int x1), (2, .int x2), (3, .int x3), (4, .int x4), (6, .int x6)] [] g Q := fun h => by
    refine sX12_step_168 ?_
    exact ps_weak (pjX12_step_169 h hk) ⟨rfl, rfl, rfl, rfl, rfl, rfl, trivial⟩
  refine And.intro (fun hc14 => ?_) (fun hc14 => ?_)
  · exact ps_weak (kT43 (q_ifp (Or.inl hc14) h)) ⟨rfl, rfl, rfl, rfl, rfl, rfl, trivial⟩
  · refine And.intro (fun hc15 => ?_) (fun hc15 => ?_)
    · exact ps_weak (kT43 (q_ifp (Or.inr (hc15)) h)) ⟨rfl, rfl, rfl, rfl, rfl, rfl, trivial⟩
    · replace h := q_ifn (not_or.mpr ⟨hc14, hc15⟩) h
      exact ps_weak (pjX12_step_164 h hk) ⟨rfl, rfl, rfl, rfl, rfl, rfl, trivial⟩
noncomputable def jX12_step_131 (g : ps_G) (x0 : Nat) (x1 : Int32) (x2 : Int32) (x3 : Int32) (x4 : Int32) (x6 : Int32) (k0 : Int32) : Option (Int32 × ps_G) := if ¬ x2 = (2 : Int32) then (jX12_step_155 g x0 x1 x2 x3 x4 x6 k0) else (if (x6 = 0) ∨ ((¬ k0 = 0) ∨ (x6 = (39 : Int32))) then (jX12_step_164 g x0 x1 x2 x3 x4 x6) else (jX12_step_155 g x0 x1 x2 x3 x4 x6 k0))
theorem pjX12_step_131 {d : Nat} {Q : ps_Rs → ps_G → Prop} {g : ps_G} {x0 : Nat} {x1 : Int32} {x2 : Int32} {x3 : Int32} {x4 : Int32} {x6 : Int32} {k0 : Int32} {r : Int32 × ps_G} (h : jX12_step_131 g x0 x1 x2 x3 x4 x6 k0 = some r) (hk : Q (.inl (some (.int r.1))) r.2) : ps_At mX12_step (d + 1) 131 [(0, .ref x0), (1, .int x1), (2, .int x2), (3, .int x3), (4, .int x4), (6, .int x6)] [.int k0] g Q := by
  unfold jX12_step_131 at h
  refine sX12_step_131 ?_
  refine ⟨by decide, ?_⟩
  refine And.intro (fun hc13 => ?_) (fun hc13 => ?_)
  · replace h := q_ifp (hc13) h
    exact ps_weak (pjX12_step_155 h hk) ⟨rfl, rfl, rfl, rfl, rfl, rfl, rfl, trivial⟩
  · replace h := q_ifn (hc13) h
    have kT48 : (jX12_step_164 g x0 x1 x2 x3 x4 x6) = some r → ps_At mX12_step (d + 1) 164 [(0, .ref x0), (1, .int x1), (2, .int x2), (3, .int x3), (4, .int x4), (6, .int x6)] [] g Q := fun h => by
      exact ps_weak (pjX12_step_164 h hk) ⟨rfl, rfl, rfl, rfl, rfl, rfl, trivial⟩
    refine And.intro (fun hc45 => ?_) (fun hc45 => ?_)
    · exact ps_weak (kT48 (q_ifp (Or.inl hc45) h)) ⟨rfl, rfl, rfl, rfl, rfl, rfl, trivial⟩
    · refine And.intro (fun hc46 => ?_) (fun hc46 => ?_)
      · exact ps_weak (kT48 (q_ifp (Or.inr (Or.inl hc46)) h)) ⟨rfl, rfl, rfl, rfl, rfl, rfl, trivial⟩
      · refine And.intro (fun hc47 => ?_) (fun hc47 => ?_)
        · exact ps_weak (kT48 (q_ifp (Or.inr (Or.inr (hc47))) h)) ⟨rfl, rfl, rfl, rfl, rfl, rfl, trivial⟩
        · replace h := q_ifn (not_or.mpr ⟨hc45, not_or.mpr ⟨hc46, hc47⟩⟩) h
          exact ps_weak (pjX12_step_155 h hk) ⟨rfl, rfl, rfl, rfl, rfl, rfl, rfl, trivial⟩
noncomputable def jX12_step_130 (g : ps_G) (x0 : Nat) (x1 : Int32) (x2 : Int32) (x3 : Int32) (x4 : Int32) (x6 : Int32) : Option (Int32 × ps_G) := jX12_step_131 g x0 x1 x2 x3 x4 x6 (0 : Int32)
theorem pjX12_step_130 {d : Nat} {Q : ps_Rs → ps_G → Prop} {g : ps_G} {x0 : Nat} {x1 : Int32} {x2 : Int32} {x3 : Int32} {x4 : Int32} {x6 : Int32} {r : Int32 × ps_G} (h : jX12_step_130 g x0 x1 x2 x3 x4 x6 = some r) (hk : Q (.inl (some (.int r.1))) r.2) : ps_At mX12_step (d + 1) 130 [(0, .ref x0), (1, .int x1), (2, .int x2), (3, .int x3), (4, .int x4), (6, .int x6)] [] g Q := by
  unfold jX12_step_130 at h
  refine sX12_step_130 ?_
  exact ps_weak (pjX12_step_131 h hk) ⟨rfl, rfl, rfl, rfl, rfl, rfl, trivial⟩
noncomputable def jX12_step_56 (g : ps_G) (x0 : Nat) (x1 : Int32) (x2 : Int32) (x3 : Int32) (x4 : Int32) (k0 : Int32) : Option (Int32 × ps_G) := Option.bind (q_sI 12 0 g x0 (if k0 = 0 then (1 : Int32) else (0 : Int32))) fun g5 => Option.bind (q_fI 12 0 g5 x0) fun v6 => if v6 ≤ 0 then (if ¬ x2 = (3 : Int32) then (Option.bind (q_fR 12 48 g5 x0) fun v9 => Option.bind (v9) fun a10 => Option.bind (q_aI g5 a10 x1) fun v11 => if v11 ≤ 0 then (jX12_step_130 g5 x0 x1 x2 x3 x4 v11) else (Option.bind (q_fR 12 49 g5 x0) fun v52 => Option.bind (v52) fun a53 => Option.bind (q_aI g5 a53 ((((40 : Int32) * x1) + v11) - (1 : Int32))) fun v54 => if ¬ v54 = (2 : Int32) then (jX12_step_130 g5 x0 x1 x2 x3 x4 v11) else (jX12_step_131 g5 x0 x1 x2 x3 x4 v11 (1 : Int32)))) else (Option.bind (q_fR 12 48 g5 x0) fun v60 => Option.bind (v60) fun a61 => Option.bind (q_wI g5 a61 x1 (0 : Int32)) fun g62 => some ((0 : Int32), g62))) else (some ((0 : Int32), g5))
theorem pjX12_step_56 {d : Nat} {Q : ps_Rs → ps_G → Prop} {g : ps_G} {x0 : Nat} {x1 : Int32} {x2 : Int32} {x3 : Int32} {x4 : Int32} {k0 : Int32} {r : Int32 × ps_G} (h : jX12_step_56 g x0 x1 x2 x3 x4 k0 = some r) (hk : Q (.inl (some (.int r.1))) r.2) : ps_At mX12_step (d + 1) 56 [(0, .ref x0), (1, .int x1), (2, .int x2), (3, .int x3), (4, .int x4)] [.int k0] g Q := by
  unfold jX12_step_56 at h
  refine sX12_step_56 ?_
  have kJ4 : ∀ w3 : Int32, w3 = (if k0 = 0 then (1 : Int32) else (0 : Int32)) → ps_At mX12_step (d + 1) 69 [(0, .ref x0), (1, .int x1), (2, .int x2), (3, .int x3), (4, .int x4)] [.int w3, .ref x0] g Q := by
    rintro _ rfl
    refine sX12_step_69 ?_
    replace h := q_be h
    obtain ⟨g5, hv, h⟩ := h
    replace hv := q_sI_e hv
    obtain ⟨_, cg5, dg5, yg5⟩ := hv
    replace h := q_be h
    obtain ⟨v6, hv, h⟩ := h
    replace hv := q_fI_e hv
    obtain ⟨_, cv6, dv6⟩ := hv
    refine ⟨_, cg5, dg5, rfl, rfl, _, yg5, ⟨some _, rfl⟩, _, _, cv6, dv6, ?_⟩
    refine And.intro (fun hc7 => ?_) (fun hc7 => ?_)
    · replace h := q_ifp (hc7) h
      refine sX12_step_81 ?_
      refine And.intro (fun hc8 => ?_) (fun hc8 => ?_)
      · replace h := q_ifp (hc8) h
        refine sX12_step_95 ?_
        replace h := q_be h
        obtain ⟨v9, hv, h⟩ := h
        replace hv := q_fR_e hv
        obtain ⟨_, cv9, dv9⟩ := hv
        replace h := q_be h
        obtain ⟨a10, ea10, h⟩ := h
        subst ea10
        replace h := q_be h
        obtain ⟨v11, hv, h⟩ := h
        replace hv := q_aI_e hv
        obtain ⟨_, _, cv11, iv11, yv11⟩ := hv
        refine ⟨⟨some _, rfl⟩, _, _, cv9, dv9, _, _, cv11, iv11, _, yv11, by decide, ?_⟩
        refine And.intro (fun hc12 => ?_) (fun hc12 => ?_)
        · replace h := q_ifp (hc12) h
          exact ps_weak (pjX12_step_130 h hk) ⟨rfl, rfl, rfl, rfl, rfl, rfl, trivial⟩
        · replace h := q_ifn (hc12) h
          replace h := q_be h
          obtain ⟨v52, hv, h⟩ := h
          replace hv := q_fR_e hv
          obtain ⟨_, cv52, dv52⟩ := hv
          replace h := q_be h
          obtain ⟨a53, ea53, h⟩ := h
          subst ea53
          replace h := q_be h
          obtain ⟨v54, hv, h⟩ := h
          replace hv := q_aI_e hv
          obtain ⟨_, _, cv54, iv54, yv54⟩ := hv
          refine ⟨⟨some _, rfl⟩, _, _, cv52, dv52, _, _, cv54, iv54, _, yv54, ?_⟩
          refine And.intro (fun hc55 => ?_) (fun hc55 => ?_)
          · replace h := q_ifp (hc55) h
            exact ps_weak (pjX12_step_130 h hk) ⟨rfl, rfl, rfl, rfl, rfl, rfl, trivial⟩
          · replace h := q_ifn (hc55) h
            exact ps_weak (pjX12_step_131 h hk) ⟨rfl, rfl, rfl, rfl, rfl, rfl, trivial⟩
      · replace h := q_ifn (hc8) h
        replace h := q_be h
        obtain ⟨v60, hv, h⟩ := h
        replace hv := q_fR_e hv
        obtain ⟨_, cv60, dv60⟩ := hv
        replace h := q_be h
        obtain ⟨a61, ea61, h⟩ := h
        subst ea61
        replace h := q_be h
        obtain ⟨g62, hv, h⟩ := h
        replace hv := q_wI_e hv
        obtain ⟨_, _, cg62, pg62, ig62, yg62⟩ := hv
        cases h
        exact ⟨⟨some _, rfl⟩, _, _, cv60, dv60, _, _, cg62, pg62, ig62, _, yg62, rfl, hk⟩
    · replace h := q_ifn (hc7) h
      cases h
      exact ⟨rfl, hk⟩
  refine ⟨by decide, ⟨some _, rfl⟩, ?_⟩
  refine And.intro (fun hc2 => ?_) (fun hc2 => ?_)
  · refine sX12_step_68 ?_
    exact ps_weak (kJ4 _ (if_pos (hc2)).symm) ⟨rfl, rfl, rfl, rfl, rfl, trivial⟩
  · exact ps_weak (kJ4 _ (if_neg (hc2)).symm) ⟨rfl, rfl, rfl, rfl, rfl, trivial⟩
noncomputable def jX12_step_55 (g : ps_G) (x0 : Nat) (x1 : Int32) (x2 : Int32) (x3 : Int32) (x4 : Int32) : Option (Int32 × ps_G) := jX12_step_56 g x0 x1 x2 x3 x4 (0 : Int32)
theorem pjX12_step_55 {d : Nat} {Q : ps_Rs → ps_G → Prop} {g : ps_G} {x0 : Nat} {x1 : Int32} {x2 : Int32} {x3 : Int32} {x4 : Int32} {r : Int32 × ps_G} (h : jX12_step_55 g x0 x1 x2 x3 x4 = some r) (hk : Q (.inl (some (.int r.1))) r.2) : ps_At mX12_step (d + 1) 55 [(0, .ref x0), (1, .int x1), (2, .int x2), (3, .int x3), (4, .int x4)] [] g Q := by
  unfold jX12_step_55 at h
  refine sX12_step_55 ?_
  exact ps_weak (pjX12_step_56 h hk) ⟨rfl, rfl, rfl, rfl, rfl, trivial⟩
noncomputable def jX12_step_51 (g : ps_G) (x0 : Nat) (x1 : Int32) (x2 : Int32) (x3 : Int32) (x4 : Int32) : Option (Int32 × ps_G) := jX12_step_56 g x0 x1 x2 x3 x4 (1 : Int32)
theorem pjX12_step_51 {d : Nat} {Q : ps_Rs → ps_G → Prop} {g : ps_G} {x0 : Nat} {x1 : Int32} {x2 : Int32} {x3 : Int32} {x4 : Int32} {r : Int32 × ps_G} (h : jX12_step_51 g x0 x1 x2 x3 x4 = some r) (hk : Q (.inl (some (.int r.1))) r.2) : ps_At mX12_step (d + 1) 51 [(0, .ref x0), (1, .int x1), (2, .int x2), (3, .int x3), (4, .int x4)] [] g Q := by
  unfold jX12_step_51 at h
  refine sX12_step_51 ?_
  exact ps_weak (pjX12_step_56 h hk) ⟨rfl, rfl, rfl, rfl, rfl, trivial⟩
noncomputable def fX12_step (g : ps_G) (x0 : Nat) (x1 : Int32) (x2 : Int32) (x3 : Int32) (x4 : Int32) : Option (Int32 × ps_G) := if (fX12_in x1 (0 : Int32) (7 : Int32)) = 0 then (jX12_step_55 g x0 x1 x2 x3 x4) else (if (fX12_in x2 (0 : Int32) (3 : Int32)) = 0 then (jX12_step_55 g x0 x1 x2 x3 x4) else (if x2 = (3 : Int32) then (jX12_step_51 g x0 x1 x2 x3 x4) else (if (fX12_in x3 (-2000 : Int32) (2000 : Int32)) = 0 then (jX12_step_55 g x0 x1 x2 x3 x4) else (if (fX12_in x4 (-2000 : Int32) (2000 : Int32)) = 0 then (jX12_step_55 g x0 x1 x2 x3 x4) else (jX12_step_51 g x0 x1 x2 x3 x4)))))
theorem rX12_step {d : Nat} {Q : ps_Rs → ps_G → Prop} {g : ps_G} {x0 : Nat} {x1 : Int32} {x2 : Int32} {x3 : Int32} {x4 : Int32} {r : Int32 × ps_G} (h : fX12_step g x0 x1 x2 x3 x4 = some r) (hk : Q (.inl (some (.int r.1))) r.2) : ps_Ok mX12_step (d + 1) [.ref x0, .int x1, .int x2, .int x3, .int x4] g Q := by
  unfold fX12_step at h
  refine sX12_step_0 ?_
  refine rX12_in rfl ?_
  refine And.intro (fun hc1 => ?_) (fun hc1 => ?_)
  · replace h := q_ifp (hc1) h
    exact ps_weak (pjX12_step_55 h hk) ⟨rfl, rfl, rfl, rfl, rfl, trivial⟩
  · replace h := q_ifn (hc1) h
    refine rX12_in rfl ?_
    refine And.intro (fun hc67 => ?_) (fun hc67 => ?_)
    · replace h := q_ifp (hc67) h
      exact ps_weak (pjX12_step_55 h hk) ⟨rfl, rfl, rfl, rfl, rfl, trivial⟩
    · replace h := q_ifn (hc67) h
      refine And.intro (fun hc68 => ?_) (fun hc68 => ?_)
      · replace h := q_ifp (hc68) h
        exact ps_weak (pjX12_step_51 h hk) ⟨rfl, rfl, rfl, rfl, rfl, trivial⟩
      · replace h := q_ifn (hc68) h
        refine rX12_in rfl ?_
        refine And.intro (fun hc69 => ?_) (fun hc69 => ?_)
        · replace h := q_ifp (hc69) h
          exact ps_weak (pjX12_step_55 h hk) ⟨rfl, rfl, rfl, rfl, rfl, trivial⟩
        · replace h := q_ifn (hc69) h
          refine rX12_in rfl ?_
          refine And.intro (fun hc70 => ?_) (fun hc70 => ?_)
          · replace h := q_ifp (hc70) h
            exact ps_weak (pjX12_step_55 h hk) ⟨rfl, rfl, rfl, rfl, rfl, trivial⟩
          · replace h := q_ifn (hc70) h
            exact ps_weak (pjX12_step_51 h hk) ⟨rfl, rfl, rfl, rfl, rfl, trivial⟩
noncomputable def bX12_fillShape_12 (x0 : Nat) (x1 : Int32) (x2 : Int32) (x3 : Int32) (g : ps_G) : Option ((Int32 × ps_G) ⊕ (ps_G)) := Option.bind (q_fI 12 13 g x0) fun v3 => if v3 ≤ x3 then (some (.inr g)) else (Option.bind (q_ob 12 g x0) fun u6 => Option.bind (fX12_at g x0 x3 x2) fun v7 => Option.bind (q_fI 12 34 g x0) fun v8 => Option.bind (q_fR 12 32 g x0) fun v9 => Option.bind (v9) fun a10 => Option.bind (q_ob 12 g x0) fun u11 => Option.bind (fX12_at g x0 x3 x2) fun v12 => Option.bind (q_aI g a10 v12) fun v13 => Option.bind (q_ob 12 g x0) fun u14 => Option.bind (fX12_shiftedChoice g x0 x1 x3 x2) fun v15 => Option.bind (q_ob 12 g x0) fun u16 => Option.bind (fX12_putOver g x0 x1 v7 v8 (fX12_mul v13 v15)) fun v17 => some (.inl (x3 + (1 : Int32), v17)))
theorem pbX12_fillShape_12 {d : Nat} {Q : ps_Rs → ps_G → Prop}  {x0 : Nat} {x1 : Int32} {x2 : Int32} {x3 : Int32} {g : ps_G} {x : (Int32 × ps_G) ⊕ (ps_G)} (h : bX12_fillShape_12 x0 x1 x2 x3 g = some x) (hh : ∀ s' : Int32 × ps_G, x = .inl s' → ps_At mX12_fillShape (d + 5) 12 [(0, .ref x0), (1, .int x1), (2, .int x2), (3, .int s'.1)] [] s'.2 Q) (he : ∀ r' : ps_G, x = .inr r' → ps_At mX12_fillShape (d + 5) 62 [(0, .ref x0), (1, .int x1), (2, .int x2)] [] r' Q) : ps_At mX12_fillShape (d + 5) 12 [(0, .ref x0), (1, .int x1), (2, .int x2), (3, .int x3)] [] g Q := by
  unfold bX12_fillShape_12 at h
  refine sX12_fillShape_12 ?_
  replace h := q_be h
  obtain ⟨v3, hv, h⟩ := h
  replace hv := q_fI_e hv
  obtain ⟨_, cv3, dv3⟩ := hv
  refine ⟨⟨some _, rfl⟩, _, _, cv3, dv3, ?_⟩
  refine And.intro (fun hc4 => ?_) (fun hc4 => ?_)
  · replace h := q_ifp (hc4) h
    exact ps_weak (he g (Option.some.inj h).symm) ⟨rfl, rfl, rfl, trivial⟩
  · replace h := q_ifn (hc4) h
    replace h := q_be h
    obtain ⟨u6, hv, h⟩ := h
    replace hv := q_ob_e hv
    obtain ⟨_, cu6⟩ := hv
    replace h := q_be h
    obtain ⟨v7, hv, h⟩ := h
    refine ⟨⟨some _, rfl⟩, ⟨some _, rfl⟩, ⟨_, cu6⟩, ?_⟩
    refine rX12_at hv ?_
    replace h := q_be h
    obtain ⟨v8, hv, h⟩ := h
    replace hv := q_fI_e hv
    obtain ⟨_, cv8, dv8⟩ := hv
    replace h := q_be h
    obtain ⟨v9, hv, h⟩ := h
    replace hv := q_fR_e hv
    obtain ⟨_, cv9, dv9⟩ := hv
    replace h := q_be h
    obtain ⟨a10, ea10, h⟩ := h
    subst ea10
    replace h := q_be h
    obtain ⟨u11, hv, h⟩ := h
    replace hv := q_ob_e hv
    obtain ⟨_, cu11⟩ := hv
    replace h := q_be h
    obtain ⟨v12, hv, h⟩ := h
    refine ⟨⟨some _, rfl⟩, _, _, cv8, dv8, ⟨some _, rfl⟩, _, _, cv9, dv9, ⟨some _, rfl⟩, ⟨_, cu11⟩, ?_⟩
    refine rX12_at hv ?_
    replace h := q_be h
    obtain ⟨v13, hv, h⟩ := h
    replace hv := q_aI_e hv
    obtain ⟨_, _, cv13, iv13, yv13⟩ := hv
    replace h := q_be h
    obtain ⟨u14, hv, h⟩ := h
    replace hv := q_ob_e hv
    obtain ⟨_, cu14⟩ := hv
    replace h := q_be h
    obtain ⟨v15, hv, h⟩ := h
    refine ⟨_, _, cv13, iv13, _, yv13, ⟨some _, rfl⟩, ⟨_, cu14⟩, ?_⟩
    refine rX12_shiftedChoice hv ?_
    refine rX12_mul rfl ?_
    replace h := q_be h
    obtain ⟨u16, hv, h⟩ := h
    replace hv := q_ob_e hv
    obtain ⟨_, cu16⟩ := hv
    replace h := q_be h
    obtain ⟨v17, hv, h⟩ := h
    refine ⟨⟨_, cu16⟩, ?_⟩
    refine rX12_putOver hv ?_
    refine ⟨by decide, ?_⟩
    exact ps_weak (hh (x3 + (1 : Int32), v17) (Option.some.inj h).symm) ⟨rfl, rfl, rfl, rfl, trivial⟩
noncomputable def bX12_fillShape_2 (x0 : Nat) (x1 : Int32) (x2 : Int32) (g : ps_G) : Option ((Int32 × ps_G) ⊕ (ps_G)) := Option.bind (q_fI 12 14 g x0) fun v1 => if v1 ≤ x2 then (some (.inr g)) else (Option.bind (q_lp (fun s => bX12_fillShape_12 x0 x1 x2 s.1 s.2) ((0 : Int32), g)) fun s20 => some (.inl (x2 + (1 : Int32), s20)))
theorem pbX12_fillShape_2 {d : Nat} {Q : ps_Rs → ps_G → Prop}  {x0 : Nat} {x1 : Int32} {x2 : Int32} {g : ps_G} {x : (Int32 × ps_G) ⊕ (ps_G)} (h : bX12_fillShape_2 x0 x1 x2 g = some x) (hh : ∀ s' : Int32 × ps_G, x = .inl s' → ps_At mX12_fillShape (d + 5) 2 [(0, .ref x0), (1, .int x1), (2, .int s'.1)] [] s'.2 Q) (he : ∀ r' : ps_G, x = .inr r' → ps_At mX12_fillShape (d + 5) 68 [] [] r' Q) : ps_At mX12_fillShape (d + 5) 2 [(0, .ref x0), (1, .int x1), (2, .int x2)] [] g Q := by
  unfold bX12_fillShape_2 at h
  refine sX12_fillShape_2 ?_
  replace h := q_be h
  obtain ⟨v1, hv, h⟩ := h
  replace hv := q_fI_e hv
  obtain ⟨_, cv1, dv1⟩ := hv
  refine ⟨⟨some _, rfl⟩, _, _, cv1, dv1, ?_⟩
  refine And.intro (fun hc2 => ?_) (fun hc2 => ?_)
  · replace h := q_ifp (hc2) h
    exact ps_weak (he g (Option.some.inj h).symm) trivial
  · replace h := q_ifn (hc2) h
    refine ⟨by decide, ?_⟩
    replace h := q_be h
    obtain ⟨s20, hl, h⟩ := h
    refine ps_weak (q_lp_ok hl (fun s => ps_At mX12_fillShape (d + 5) 12 [(0, .ref x0), (1, .int x1), (2, .int x2), (3, .int s.1)] [] s.2 Q) (fun r => ps_At mX12_fillShape (d + 5) 62 [(0, .ref x0), (1, .int x1), (2, .int x2)] [] r Q) (fun s x hb hh he => pbX12_fillShape_12 hb hh he) ?_) ⟨rfl, rfl, rfl, rfl, trivial⟩
    refine (?_ : ps_At mX12_fillShape (d + 5) 62 [(0, .ref x0), (1, .int x1), (2, .int x2)] [] s20 Q)
    refine sX12_fillShape_62 ?_
    refine ⟨by decide, ?_⟩
    exact ps_weak (hh (x2 + (1 : Int32), s20) (Option.some.inj h).symm) ⟨rfl, rfl, rfl, trivial⟩
noncomputable def fX12_fillShape (g : ps_G) (x0 : Nat) (x1 : Int32) : Option (ps_G) := Option.bind (q_lp (fun s => bX12_fillShape_2 x0 x1 s.1 s.2) ((0 : Int32), g)) fun s23 => some s23
theorem rX12_fillShape {d : Nat} {Q : ps_Rs → ps_G → Prop} {g : ps_G} {x0 : Nat} {x1 : Int32} {r : ps_G} (h : fX12_fillShape g x0 x1 = some r) (hk : Q (.inl none) r) : ps_Ok mX12_fillShape (d + 5) [.ref x0, .int x1] g Q := by
  unfold fX12_fillShape at h
  refine sX12_fillShape_0 ?_
  refine ⟨by decide, ?_⟩
  replace h := q_be h
  obtain ⟨s23, hl, h⟩ := h
  refine ps_weak (q_lp_ok hl (fun s => ps_At mX12_fillShape (d + 5) 2 [(0, .ref x0), (1, .int x1), (2, .int s.1)] [] s.2 Q) (fun r => ps_At mX12_fillShape (d + 5) 68 [] [] r Q) (fun s x hb hh he => pbX12_fillShape_2 hb hh he) ?_) ⟨rfl, rfl, rfl, trivial⟩
  refine (?_ : ps_At mX12_fillShape (d + 5) 68 [] [] s23 Q)
  refine sX12_fillShape_68 ?_
  cases h
  exact ⟨rfl, rfl, hk⟩
noncomputable def jX12_path_27 (g : ps_G) (x0 : Nat) (x1 : Int32) (x2 : Int32) (x3 : Int32) (k0 : Nat) (k1 : Nat) (k2 : Int32) (k3 : Int32) : Option (Int32 × ps_G) := Option.bind (q_ob 12 g k1) fun u2 => Option.bind (fX12_why g k1 k2 k3) fun v3 => Option.bind (q_sI 12 0 g k0 v3) fun g4 => Option.bind (q_fI 12 0 g4 x0) fun v5 => if v5 ≤ 0 then (Option.bind (q_ob 12 g4 x0) fun u7 => Option.bind (fX12_begin g4 x0 x1) fun v8 => Option.bind (q_ob 12 v8 x0) fun u9 => Option.bind (fX12_shapeOfPath v8 x0 x2 x3 (0 : Int32) (0 : Int32)) fun v10 => Option.bind (q_ob 12 v10 x0) fun u11 => Option.bind (fX12_fillShape v10 x0 x1) fun v12 => Option.bind (q_ob 12 v12 x0) fun u13 => q_b2 (fX12_changed v12 x0 x1) fun v14 g15 => some (v14, g15)) else (some ((0 : Int32), g4))
theorem pjX12_path_27 {d : Nat} {Q : ps_Rs → ps_G → Prop} {g : ps_G} {x0 : Nat} {x1 : Int32} {x2 : Int32} {x3 : Int32} {k0 : Nat} {k1 : Nat} {k2 : Int32} {k3 : Int32} {r : Int32 × ps_G} (h : jX12_path_27 g x0 x1 x2 x3 k0 k1 k2 k3 = some r) (hk : Q (.inl (some (.int r.1))) r.2) : ps_At mX12_path (d + 6) 27 [(0, .ref x0), (1, .int x1), (2, .int x2), (3, .int x3)] [.int k3, .int k2, .ref k1, .ref k0] g Q := by
  unfold jX12_path_27 at h
  refine sX12_path_27 ?_
  replace h := q_be h
  obtain ⟨u2, hv, h⟩ := h
  replace hv := q_ob_e hv
  obtain ⟨_, cu2⟩ := hv
  replace h := q_be h
  obtain ⟨v3, hv, h⟩ := h
  refine ⟨⟨_, cu2⟩, ?_⟩
  refine rX12_why hv ?_
  replace h := q_be h
  obtain ⟨g4, hv, h⟩ := h
  replace hv := q_sI_e hv
  obtain ⟨_, cg4, dg4, yg4⟩ := hv
  replace h := q_be h
  obtain ⟨v5, hv, h⟩ := h
  replace hv := q_fI_e hv
  obtain ⟨_, cv5, dv5⟩ := hv
  refine ⟨_, cg4, dg4, rfl, rfl, _, yg4, ⟨some _, rfl⟩, _, _, cv5, dv5, ?_⟩
  refine And.intro (fun hc6 => ?_) (fun hc6 => ?_)
  · replace h := q_ifp (hc6) h
    refine sX12_path_42 ?_
    replace h := q_be h
    obtain ⟨u7, hv, h⟩ := h
    replace hv := q_ob_e hv
    obtain ⟨_, cu7⟩ := hv
    replace h := q_be h
    obtain ⟨v8, hv, h⟩ := h
    refine ⟨⟨some _, rfl⟩, ⟨_, cu7⟩, ?_⟩
    refine rX12_begin hv ?_
    replace h := q_be h
    obtain ⟨u9, hv, h⟩ := h
    replace hv := q_ob_e hv
    obtain ⟨_, cu9⟩ := hv
    replace h := q_be h
    obtain ⟨v10, hv, h⟩ := h
    refine ⟨⟨some _, rfl⟩, ⟨_, cu9⟩, ?_⟩
    refine rX12_shapeOfPath hv ?_
    replace h := q_be h
    obtain ⟨u11, hv, h⟩ := h
    replace hv := q_ob_e hv
    obtain ⟨_, cu11⟩ := hv
    replace h := q_be h
    obtain ⟨v12, hv, h⟩ := h
    refine ⟨⟨some _, rfl⟩, ⟨_, cu11⟩, ?_⟩
    refine rX12_fillShape hv ?_
    replace h := q_be h
    obtain ⟨u13, hv, h⟩ := h
    replace hv := q_ob_e hv
    obtain ⟨_, cu13⟩ := hv
    replace h := q_b2_e h
    obtain ⟨v14, g15, hv, h⟩ := h
    refine ⟨⟨some _, rfl⟩, ⟨_, cu13⟩, ?_⟩
    refine rX12_changed hv ?_
    cases h
    exact ⟨rfl, hk⟩
  · replace h := q_ifn (hc6) h
    cases h
    exact ⟨rfl, hk⟩
noncomputable def jX12_path_26 (g : ps_G) (x0 : Nat) (x1 : Int32) (x2 : Int32) (x3 : Int32) (k0 : Nat) (k1 : Nat) (k2 : Int32) : Option (Int32 × ps_G) := jX12_path_27 g x0 x1 x2 x3 k0 k1 k2 (0 : Int32)
theorem pjX12_path_26 {d : Nat} {Q : ps_Rs → ps_G → Prop} {g : ps_G} {x0 : Nat} {x1 : Int32} {x2 : Int32} {x3 : Int32} {k0 : Nat} {k1 : Nat} {k2 : Int32} {r : Int32 × ps_G} (h : jX12_path_26 g x0 x1 x2 x3 k0 k1 k2 = some r) (hk : Q (.inl (some (.int r.1))) r.2) : ps_At mX12_path (d + 6) 26 [(0, .ref x0), (1, .int x1), (2, .int x2), (3, .int x3)] [.int k2, .ref k1, .ref k0] g Q := by
  unfold jX12_path_26 at h
  refine sX12_path_26 ?_
  exact ps_weak (pjX12_path_27 h hk) ⟨rfl, rfl, rfl, rfl, trivial⟩
noncomputable def fX12_path (g : ps_G) (x0 : Nat) (x1 : Int32) (x2 : Int32) (x3 : Int32) : Option (Int32 × ps_G) := if (fX12_in x2 (0 : Int32) (7 : Int32)) = 0 then (jX12_path_26 g x0 x1 x2 x3 x0 x0 x1) else (if (fX12_in x3 (0 : Int32) (1 : Int32)) = 0 then (jX12_path_26 g x0 x1 x2 x3 x0 x0 x1) else (jX12_path_27 g x0 x1 x2 x3 x0 x0 x1 (1 : Int32)))
theorem rX12_path {d : Nat} {Q : ps_Rs → ps_G → Prop} {g : ps_G} {x0 : Nat} {x1 : Int32} {x2 : Int32} {x3 : Int32} {r : Int32 × ps_G} (h : fX12_path g x0 x1 x2 x3 = some r) (hk : Q (.inl (some (.int r.1))) r.2) : ps_Ok mX12_path (d + 6) [.ref x0, .int x1, .int x2, .int x3] g Q := by
  unfold fX12_path at h
  refine sX12_path_0 ?_
  refine ⟨⟨some _, rfl⟩, ⟨some _, rfl⟩, ?_⟩
  refine rX12_in rfl ?_
  refine And.intro (fun hc1 => ?_) (fun hc1 => ?_)
  · replace h := q_ifp (hc1) h
    exact ps_weak (pjX12_path_26 h hk) ⟨rfl, rfl, rfl, rfl, trivial⟩
  · replace h := q_ifn (hc1) h
    refine rX12_in rfl ?_
    refine And.intro (fun hc18 => ?_) (fun hc18 => ?_)
    · replace h := q_ifp (hc18) h
      exact ps_weak (pjX12_path_26 h hk) ⟨rfl, rfl, rfl, rfl, trivial⟩
    · replace h := q_ifn (hc18) h
      exact ps_weak (pjX12_path_27 h hk) ⟨rfl, rfl, rfl, rfl, trivial⟩
noncomputable def jX12_glyph_38 (g : ps_G) (x0 : Nat) (x1 : Int32) (x2 : Int32) (x3 : Int32) (k0 : Nat) (k1 : Int32) : Option (ps_G) := Option.bind (q_sI 12 0 g k0 k1) fun g2 => Option.bind (q_fI 12 0 g2 x0) fun v3 => if v3 ≤ 0 then (Option.bind (q_fR 12 57 g2 x0) fun v5 => Option.bind (v5) fun a6 => Option.bind (q_wI g2 a6 x1 x2) fun g7 => Option.bind (q_fR 12 58 g7 x0) fun v8 => Option.bind (v8) fun a9 => Option.bind (q_wI g7 a9 x1 x3) fun g10 => some g10) else (some g2)
theorem pjX12_glyph_38 {d : Nat} {Q : ps_Rs → ps_G → Prop} {g : ps_G} {x0 : Nat} {x1 : Int32} {x2 : Int32} {x3 : Int32} {k0 : Nat} {k1 : Int32} {r : ps_G} (h : jX12_glyph_38 g x0 x1 x2 x3 k0 k1 = some r) (hk : Q (.inl none) r) : ps_At mX12_glyph (d + 1) 38 [(0, .ref x0), (1, .int x1), (2, .int x2), (3, .int x3)] [.int k1, .ref k0] g Q := by
  unfold jX12_glyph_38 at h
  refine sX12_glyph_38 ?_
  replace h := q_be h
  obtain ⟨g2, hv, h⟩ := h
  replace hv := q_sI_e hv
  obtain ⟨_, cg2, dg2, yg2⟩ := hv
  replace h := q_be h
  obtain ⟨v3, hv, h⟩ := h
  replace hv := q_fI_e hv
  obtain ⟨_, cv3, dv3⟩ := hv
  refine ⟨_, cg2, dg2, rfl, rfl, _, yg2, ⟨some _, rfl⟩, _, _, cv3, dv3, ?_⟩
  refine And.intro (fun hc4 => ?_) (fun hc4 => ?_)
  · replace h := q_ifp (hc4) h
    refine sX12_glyph_49 ?_
    replace h := q_be h
    obtain ⟨v5, hv, h⟩ := h
    replace hv := q_fR_e hv
    obtain ⟨_, cv5, dv5⟩ := hv
    replace h := q_be h
    obtain ⟨a6, ea6, h⟩ := h
    subst ea6
    replace h := q_be h
    obtain ⟨g7, hv, h⟩ := h
    replace hv := q_wI_e hv
    obtain ⟨_, _, cg7, pg7, ig7, yg7⟩ := hv
    replace h := q_be h
    obtain ⟨v8, hv, h⟩ := h
    replace hv := q_fR_e hv
    obtain ⟨_, cv8, dv8⟩ := hv
    replace h := q_be h
    obtain ⟨a9, ea9, h⟩ := h
    subst ea9
    replace h := q_be h
    obtain ⟨g10, hv, h⟩ := h
    replace hv := q_wI_e hv
    obtain ⟨_, _, cg10, pg10, ig10, yg10⟩ := hv
    cases h
    exact ⟨⟨some _, rfl⟩, _, _, cv5, dv5, _, _, cg7, pg7, ig7, _, yg7, ⟨some _, rfl⟩, _, _, cv8, dv8, _, _, cg10, pg10, ig10, _, yg10, rfl, rfl, hk⟩
  · replace h := q_ifn (hc4) h
    cases h
    exact ⟨rfl, rfl, hk⟩
noncomputable def jX12_glyph_37 (g : ps_G) (x0 : Nat) (x1 : Int32) (x2 : Int32) (x3 : Int32) (k0 : Nat) : Option (ps_G) := jX12_glyph_38 g x0 x1 x2 x3 k0 (1 : Int32)
theorem pjX12_glyph_37 {d : Nat} {Q : ps_Rs → ps_G → Prop} {g : ps_G} {x0 : Nat} {x1 : Int32} {x2 : Int32} {x3 : Int32} {k0 : Nat} {r : ps_G} (h : jX12_glyph_37 g x0 x1 x2 x3 k0 = some r) (hk : Q (.inl none) r) : ps_At mX12_glyph (d + 1) 37 [(0, .ref x0), (1, .int x1), (2, .int x2), (3, .int x3)] [.ref k0] g Q := by
  unfold jX12_glyph_37 at h
  refine sX12_glyph_37 ?_
  exact ps_weak (pjX12_glyph_38 h hk) ⟨rfl, rfl, rfl, rfl, trivial⟩
noncomputable def fX12_glyph (g : ps_G) (x0 : Nat) (x1 : Int32) (x2 : Int32) (x3 : Int32) : Option (ps_G) := if (fX12_in x1 (0 : Int32) (255 : Int32)) = 0 then (jX12_glyph_37 g x0 x1 x2 x3 x0) else (if (fX12_in x2 (-1 : Int32) (7 : Int32)) = 0 then (jX12_glyph_37 g x0 x1 x2 x3 x0) else (if (fX12_in x3 (0 : Int32) (800 : Int32)) = 0 then (jX12_glyph_37 g x0 x1 x2 x3 x0) else (jX12_glyph_38 g x0 x1 x2 x3 x0 (0 : Int32))))
theorem rX12_glyph {d : Nat} {Q : ps_Rs → ps_G → Prop} {g : ps_G} {x0 : Nat} {x1 : Int32} {x2 : Int32} {x3 : Int32} {r : ps_G} (h : fX12_glyph g x0 x1 x2 x3 = some r) (hk : Q (.inl none) r) : ps_Ok mX12_glyph (d + 1) [.ref x0, .int x1, .int x2, .int x3] g Q := by
  unfold fX12_glyph at h
  refine sX12_glyph_0 ?_
  refine ⟨⟨some _, rfl⟩, ?_⟩
  refine rX12_in rfl ?_
  refine And.intro (fun hc1 => ?_) (fun hc1 => ?_)
  · replace h := q_ifp (hc1) h
    exact ps_weak (pjX12_glyph_37 h hk) ⟨rfl, rfl, rfl, rfl, trivial⟩
  · replace h := q_ifn (hc1) h
    refine rX12_in rfl ?_
    refine And.intro (fun hc13 => ?_) (fun hc13 => ?_)
    · replace h := q_ifp (hc13) h
      exact ps_weak (pjX12_glyph_37 h hk) ⟨rfl, rfl, rfl, rfl, trivial⟩
    · replace h := q_ifn (hc13) h
      refine rX12_in rfl ?_
      refine And.intro (fun hc14 => ?_) (fun hc14 => ?_)
      · replace h := q_ifp (hc14) h
        exact ps_weak (pjX12_glyph_37 h hk) ⟨rfl, rfl, rfl, rfl, trivial⟩
      · replace h := q_ifn (hc14) h
        exact ps_weak (pjX12_glyph_38 h hk) ⟨rfl, rfl, rfl, rfl, trivial⟩
noncomputable def fX12_takeInput (g : ps_G) (x0 : Nat) : Option (ps_G) := Option.bind (q_fI 12 2 g x0) fun v1 => Option.bind (q_sI 12 3 g x0 v1) fun g2 => Option.bind (q_sI 12 2 g2 x0 (0 : Int32)) fun g3 => Option.bind (q_sI 12 4 g3 x0 (0 : Int32)) fun g4 => Option.bind (q_sI 12 5 g4 x0 (0 : Int32)) fun g5 => some g5
theorem rX12_takeInput {d : Nat} {Q : ps_Rs → ps_G → Prop} {g : ps_G} {x0 : Nat} {r : ps_G} (h : fX12_takeInput g x0 = some r) (hk : Q (.inl none) r) : ps_Ok mX12_takeInput d [.ref x0] g Q := by
  unfold fX12_takeInput at h
  refine sX12_takeInput_0 ?_
  replace h := q_be h
  obtain ⟨v1, hv, h⟩ := h
  replace hv := q_fI_e hv
  obtain ⟨_, cv1, dv1⟩ := hv
  replace h := q_be h
  obtain ⟨g2, hv, h⟩ := h
  replace hv := q_sI_e hv
  obtain ⟨_, cg2, dg2, yg2⟩ := hv
  replace h := q_be h
  obtain ⟨g3, hv, h⟩ := h
  replace hv := q_sI_e hv
  obtain ⟨_, cg3, dg3, yg3⟩ := hv
  replace h := q_be h
  obtain ⟨g4, hv, h⟩ := h
  replace hv := q_sI_e hv
  obtain ⟨_, cg4, dg4, yg4⟩ := hv
  replace h := q_be h
  obtain ⟨g5, hv, h⟩ := h
  replace hv := q_sI_e hv
  obtain ⟨_, cg5, dg5, yg5⟩ := hv
  cases h
  exact ⟨⟨some _, rfl⟩, ⟨some _, rfl⟩, _, _, cv1, dv1, _, cg2, dg2, rfl, rfl, _, yg2, ⟨some _, rfl⟩, _, cg3, dg3, rfl, rfl, _, yg3, ⟨some _, rfl⟩, _, cg4, dg4, rfl, rfl, _, yg4, ⟨some _, rfl⟩, _, cg5, dg5, rfl, rfl, _, yg5, rfl, rfl, hk⟩
noncomputable def jX12_text_134_64 (g : ps_G) (x0 : Nat) (x1 : Int32) (x3 : Int32) (x4 : Int32) (x5 : Int32) : Option ((Int32 × Int32 × ps_G) ⊕ (ps_G)) := some (.inl (x4, x5 + (1 : Int32), g))
theorem pjX12_text_134_64 {d : Nat} {Q : ps_Rs → ps_G → Prop} {g : ps_G} {x0 : Nat} {x1 : Int32} {x3 : Int32} {x4 : Int32} {x5 : Int32} {x : (Int32 × Int32 × ps_G) ⊕ (ps_G)} (h : jX12_text_134_64 g x0 x1 x3 x4 x5 = some x) (hh : ∀ s' : Int32 × Int32 × ps_G, x = .inl s' → ps_At mX12_text (d + 6) 64 [(0, .ref x0), (1, .int x1), (3, .int x3), (4, .int s'.1), (5, .int s'.2.1)] [] s'.2.2 Q) (he : ∀ r' : ps_G, x = .inr r' → ps_At mX12_text (d + 6) 140 [(0, .ref x0), (1, .int x1)] [] r' Q) : ps_At mX12_text (d + 6) 134 [(0, .ref x0), (1, .int x1), (3, .int x3), (4, .int x4), (5, .int x5)] [] g Q := by
  unfold jX12_text_134_64 at h
  refine sX12_text_134 ?_
  refine ⟨by decide, ?_⟩
  exact ps_weak (hh (x4, x5 + (1 : Int32), g) (Option.some.inj h).symm) ⟨rfl, rfl, rfl, rfl, rfl, trivial⟩
noncomputable def bX12_text_64 (x0 : Nat) (x1 : Int32) (x3 : Int32) (x4 : Int32) (x5 : Int32) (g : ps_G) : Option ((Int32 × Int32 × ps_G) ⊕ (ps_G)) := Option.bind (q_fI 12 3 g x0) fun v11 => if (v11 ≤ x5) ∨ ((40 : Int32) ≤ x5) then (some (.inr g)) else (Option.bind (q_fR 12 1 g x0) fun v15 => Option.bind (v15) fun a16 => Option.bind (q_aI g a16 x5) fun v17 => Option.bind (q_fR 12 57 g x0) fun v18 => Option.bind (v18) fun a19 => Option.bind (q_aI g a19 v17) fun v20 => if 0 ≤ v20 then (Option.bind (q_fR 12 57 g x0) fun v23 => Option.bind (v23) fun a24 => Option.bind (q_aI g a24 v17) fun v25 => Option.bind (q_ob 12 g x0) fun u26 => Option.bind (fX12_shapeOfPath g x0 v25 (0 : Int32) x4 x3) fun v27 => Option.bind (q_ob 12 v27 x0) fun u28 => Option.bind (fX12_fillShape v27 x0 x1) fun v29 => Option.bind (q_fR 12 58 v29 x0) fun v30 => Option.bind (v30) fun a31 => Option.bind (q_aI v29 a31 v17) fun v32 => jX12_text_134_64 v29 x0 x1 x3 (x4 + v32) x5) else (jX12_text_134_64 g x0 x1 x3 x4 x5))
theorem pbX12_text_64 {d : Nat} {Q : ps_Rs → ps_G → Prop}  {x0 : Nat} {x1 : Int32} {x3 : Int32} {x4 : Int32} {x5 : Int32} {g : ps_G} {x : (Int32 × Int32 × ps_G) ⊕ (ps_G)} (h : bX12_text_64 x0 x1 x3 x4 x5 g = some x) (hh : ∀ s' : Int32 × Int32 × ps_G, x = .inl s' → ps_At mX12_text (d + 6) 64 [(0, .ref x0), (1, .int x1), (3, .int x3), (4, .int s'.1), (5, .int s'.2.1)] [] s'.2.2 Q) (he : ∀ r' : ps_G, x = .inr r' → ps_At mX12_text (d + 6) 140 [(0, .ref x0), (1, .int x1)] [] r' Q) : ps_At mX12_text (d + 6) 64 [(0, .ref x0), (1, .int x1), (3, .int x3), (4, .int x4), (5, .int x5)] [] g Q := by
  unfold bX12_text_64 at h
  refine sX12_text_64 ?_
  replace h := q_be h
  obtain ⟨v11, hv, h⟩ := h
  replace hv := q_fI_e hv
  obtain ⟨_, cv11, dv11⟩ := hv
  have kT35 : (some (.inr g)) = some x → ps_At mX12_text (d + 6) 140 [(0, .ref x0), (1, .int x1)] [] g Q := fun h => by
    exact ps_weak (he g (Option.some.inj h).symm) ⟨rfl, rfl, trivial⟩
  refine ⟨⟨some _, rfl⟩, _, _, cv11, dv11, ?_⟩
  refine And.intro (fun hc12 => ?_) (fun hc12 => ?_)
  · exact ps_weak (kT35 (q_ifp (Or.inl hc12) h)) ⟨rfl, rfl, trivial⟩
  · refine And.intro (fun hc13 => ?_) (fun hc13 => ?_)
    · exact ps_weak (kT35 (q_ifp (Or.inr (hc13)) h)) ⟨rfl, rfl, trivial⟩
    · replace h := q_ifn (not_or.mpr ⟨hc12, hc13⟩) h
      replace h := q_be h
      obtain ⟨v15, hv, h⟩ := h
      replace hv := q_fR_e hv
      obtain ⟨_, cv15, dv15⟩ := hv
      replace h := q_be h
      obtain ⟨a16, ea16, h⟩ := h
      subst ea16
      replace h := q_be h
      obtain ⟨v17, hv, h⟩ := h
      replace hv := q_aI_e hv
      obtain ⟨_, _, cv17, iv17, yv17⟩ := hv
      replace h := q_be h
      obtain ⟨v18, hv, h⟩ := h
      replace hv := q_fR_e hv
      obtain ⟨_, cv18, dv18⟩ := hv
      replace h := q_be h
      obtain ⟨a19, ea19, h⟩ := h
      subst ea19
      replace h := q_be h
      obtain ⟨v20, hv, h⟩ := h
      replace hv := q_aI_e hv
      obtain ⟨_, _, cv20, iv20, yv20⟩ := hv
      refine ⟨⟨some _, rfl⟩, _, _, cv15, dv15, _, _, cv17, iv17, _, yv17, by decide, ⟨some _, rfl⟩, _, _, cv18, dv18, _, _, cv20, iv20, _, yv20, ?_⟩
      refine And.intro (fun hc21 => ?_) (fun hc21 => ?_)
      · replace h := q_ifp (hc21) h
        refine sX12_text_102 ?_
        replace h := q_be h
        obtain ⟨v23, hv, h⟩ := h
        replace hv := q_fR_e hv
        obtain ⟨_, cv23, dv23⟩ := hv
        replace h := q_be h
        obtain ⟨a24, ea24, h⟩ := h
        subst ea24
        replace h := q_be h
        obtain ⟨v25, hv, h⟩ := h
        replace hv := q_aI_e hv
        obtain ⟨_, _, cv25, iv25, yv25⟩ := hv
        replace h := q_be h
        obtain ⟨u26, hv, h⟩ := h
        replace hv := q_ob_e hv
        obtain ⟨_, cu26⟩ := hv
        replace h := q_be h
        obtain ⟨v27, hv, h⟩ := h
        refine ⟨⟨some _, rfl⟩, ⟨some _, rfl⟩, _, _, cv23, dv23, _, _, cv25, iv25, _, yv25, ⟨_, cu26⟩, ?_⟩
        refine rX12_shapeOfPath hv ?_
        replace h := q_be h
        obtain ⟨u28, hv, h⟩ := h
        replace hv := q_ob_e hv
        obtain ⟨_, cu28⟩ := hv
        replace h := q_be h
        obtain ⟨v29, hv, h⟩ := h
        refine ⟨⟨some _, rfl⟩, ⟨_, cu28⟩, ?_⟩
        refine rX12_fillShape hv ?_
        replace h := q_be h
        obtain ⟨v30, hv, h⟩ := h
        replace hv := q_fR_e hv
        obtain ⟨_, cv30, dv30⟩ := hv
        replace h := q_be h
        obtain ⟨a31, ea31, h⟩ := h
        subst ea31
        replace h := q_be h
        obtain ⟨v32, hv, h⟩ := h
        replace hv := q_aI_e hv
        obtain ⟨_, _, cv32, iv32, yv32⟩ := hv
        refine ⟨⟨some _, rfl⟩, _, _, cv30, dv30, _, _, cv32, iv32, _, yv32, by decide, ?_⟩
        exact ps_weak (pjX12_text_134_64 h hh he) ⟨rfl, rfl, rfl, rfl, rfl, trivial⟩
      · replace h := q_ifn (hc21) h
        exact ps_weak (pjX12_text_134_64 h hh he) ⟨rfl, rfl, rfl, rfl, rfl, trivial⟩
noncomputable def jX12_text_140 (g : ps_G) (x0 : Nat) (x1 : Int32) : Option (Int32 × ps_G) := Option.bind (q_ob 12 g x0) fun u38 => q_b2 (fX12_changed g x0 x1) fun v39 g40 => some (v39, g40)
theorem pjX12_text_140 {d : Nat} {Q : ps_Rs → ps_G → Prop} {g : ps_G} {x0 : Nat} {x1 : Int32} {r : Int32 × ps_G} (h : jX12_text_140 g x0 x1 = some r) (hk : Q (.inl (some (.int r.1))) r.2) : ps_At mX12_text (d + 6) 140 [(0, .ref x0), (1, .int x1)] [] g Q := by
  unfold jX12_text_140 at h
  refine sX12_text_140 ?_
  replace h := q_be h
  obtain ⟨u38, hv, h⟩ := h
  replace hv := q_ob_e hv
  obtain ⟨_, cu38⟩ := hv
  replace h := q_b2_e h
  obtain ⟨v39, g40, hv, h⟩ := h
  refine ⟨⟨some _, rfl⟩, ⟨_, cu38⟩, ?_⟩
  refine rX12_changed hv ?_
  cases h
  exact ⟨rfl, hk⟩
noncomputable def jX12_text_38 (g : ps_G) (x0 : Nat) (x1 : Int32) (x2 : Int32) (x3 : Int32) (k0 : Nat) (k1 : Nat) (k2 : Int32) (k3 : Int32) : Option (Int32 × ps_G) := Option.bind (q_ob 12 g k1) fun u4 => Option.bind (fX12_why g k1 k2 k3) fun v5 => Option.bind (q_sI 12 0 g k0 v5) fun g6 => Option.bind (q_fI 12 0 g6 x0) fun v7 => if v7 ≤ 0 then (Option.bind (q_ob 12 g6 x0) fun u9 => Option.bind (fX12_begin g6 x0 x1) fun v10 => Option.bind (q_lp (fun s => bX12_text_64 x0 x1 x3 s.1 s.2.1 s.2.2) (x2, (0 : Int32), v10)) fun s37 => jX12_text_140 s37 x0 x1) else (some ((0 : Int32), g6))
theorem pjX12_text_38 {d : Nat} {Q : ps_Rs → ps_G → Prop} {g : ps_G} {x0 : Nat} {x1 : Int32} {x2 : Int32} {x3 : Int32} {k0 : Nat} {k1 : Nat} {k2 : Int32} {k3 : Int32} {r : Int32 × ps_G} (h : jX12_text_38 g x0 x1 x2 x3 k0 k1 k2 k3 = some r) (hk : Q (.inl (some (.int r.1))) r.2) : ps_At mX12_text (d + 6) 38 [(0, .ref x0), (1, .int x1), (2, .int x2), (3, .int x3)] [.int k3, .int k2, .ref k1, .ref k0] g Q := by
  unfold jX12_text_38 at h
  refine sX12_text_38 ?_
  replace h := q_be h
  obtain ⟨u4, hv, h⟩ := h
  replace hv := q_ob_e hv
  obtain ⟨_, cu4⟩ := hv
  replace h := q_be h
  obtain ⟨v5, hv, h⟩ := h
  refine ⟨⟨_, cu4⟩, ?_⟩
  refine rX12_why hv ?_
  replace h := q_be h
  obtain ⟨g6, hv, h⟩ := h
  replace hv := q_sI_e hv
  obtain ⟨_, cg6, dg6, yg6⟩ := hv
  replace h := q_be h
  obtain ⟨v7, hv, h⟩ := h
  replace hv := q_fI_e hv
  obtain ⟨_, cv7, dv7⟩ := hv
  refine ⟨_, cg6, dg6, rfl, rfl, _, yg6, ⟨some _, rfl⟩, _, _, cv7, dv7, ?_⟩
  refine And.intro (fun hc8 => ?_) (fun hc8 => ?_)
  · replace h := q_ifp (hc8) h
    refine sX12_text_53 ?_
    replace h := q_be h
    obtain ⟨u9, hv, h⟩ := h
    replace hv := q_ob_e hv
    obtain ⟨_, cu9⟩ := hv
    replace h := q_be h
    obtain ⟨v10, hv, h⟩ := h
    refine ⟨⟨some _, rfl⟩, ⟨_, cu9⟩, ?_⟩
    refine rX12_begin hv ?_
    refine ⟨by decide, by decide, ?_⟩
    replace h := q_be h
    obtain ⟨s37, hl, h⟩ := h
    refine ps_weak (q_lp_ok hl (fun s => ps_At mX12_text (d + 6) 64 [(0, .ref x0), (1, .int x1), (3, .int x3), (4, .int s.1), (5, .int s.2.1)] [] s.2.2 Q) (fun r => ps_At mX12_text (d + 6) 140 [(0, .ref x0), (1, .int x1)] [] r Q) (fun s x hb hh he => pbX12_text_64 hb hh he) ?_) ⟨rfl, rfl, rfl, rfl, rfl, trivial⟩
    refine (?_ : ps_At mX12_text (d + 6) 140 [(0, .ref x0), (1, .int x1)] [] s37 Q)
    exact ps_weak (pjX12_text_140 h hk) ⟨rfl, rfl, trivial⟩
  · replace h := q_ifn (hc8) h
    cases h
    exact ⟨rfl, hk⟩
noncomputable def jX12_text_37 (g : ps_G) (x0 : Nat) (x1 : Int32) (x2 : Int32) (x3 : Int32) (k0 : Nat) (k1 : Nat) (k2 : Int32) : Option (Int32 × ps_G) := jX12_text_38 g x0 x1 x2 x3 k0 k1 k2 (0 : Int32)
theorem pjX12_text_37 {d : Nat} {Q : ps_Rs → ps_G → Prop} {g : ps_G} {x0 : Nat} {x1 : Int32} {x2 : Int32} {x3 : Int32} {k0 : Nat} {k1 : Nat} {k2 : Int32} {r : Int32 × ps_G} (h : jX12_text_37 g x0 x1 x2 x3 k0 k1 k2 = some r) (hk : Q (.inl (some (.int r.1))) r.2) : ps_At mX12_text (d + 6) 37 [(0, .ref x0), (1, .int x1), (2, .int x2), (3, .int x3)] [.int k2, .ref k1, .ref k0] g Q := by
  unfold jX12_text_37 at h
  refine sX12_text_37 ?_
  exact ps_weak (pjX12_text_38 h hk) ⟨rfl, rfl, rfl, rfl, trivial⟩
noncomputable def fX12_text (g : ps_G) (x0 : Nat) (x1 : Int32) (x2 : Int32) (x3 : Int32) : Option (Int32 × ps_G) := Option.bind (q_ob 12 g x0) fun u1 => Option.bind (fX12_takeInput g x0) fun v2 => if (fX12_in x2 (-2000 : Int32) (2000 : Int32)) = 0 then (jX12_text_37 v2 x0 x1 x2 x3 x0 x0 x1) else (if (fX12_in x3 (-2000 : Int32) (2000 : Int32)) = 0 then (jX12_text_37 v2 x0 x1 x2 x3 x0 x0 x1) else (jX12_text_38 v2 x0 x1 x2 x3 x0 x0 x1 (1 : Int32)))
theorem rX12_text {d : Nat} {Q : ps_Rs → ps_G → Prop} {g : ps_G} {x0 : Nat} {x1 : Int32} {x2 : Int32} {x3 : Int32} {r : Int32 × ps_G} (h : fX12_text g x0 x1 x2 x3 = some r) (hk : Q (.inl (some (.int r.1))) r.2) : ps_Ok mX12_text (d + 6) [.ref x0, .int x1, .int x2, .int x3] g Q := by
  unfold fX12_text at h
  refine sX12_text_0 ?_
  replace h := q_be h
  obtain ⟨u1, hv, h⟩ := h
  replace hv := q_ob_e hv
  obtain ⟨_, cu1⟩ := hv
  replace h := q_be h
  obtain ⟨v2, hv, h⟩ := h
  refine ⟨⟨some _, rfl⟩, ⟨_, cu1⟩, ?_⟩
  refine rX12_takeInput hv ?_
  refine ⟨⟨some _, rfl⟩, ⟨some _, rfl⟩, ?_⟩
  refine rX12_in rfl ?_
  refine And.intro (fun hc3 => ?_) (fun hc3 => ?_)
  · replace h := q_ifp (hc3) h
    exact ps_weak (pjX12_text_37 h hk) ⟨rfl, rfl, rfl, rfl, trivial⟩
  · replace h := q_ifn (hc3) h
    refine rX12_in rfl ?_
    refine And.intro (fun hc43 => ?_) (fun hc43 => ?_)
    · replace h := q_ifp (hc43) h
      exact ps_weak (pjX12_text_37 h hk) ⟨rfl, rfl, rfl, rfl, trivial⟩
    · replace h := q_ifn (hc43) h
      exact ps_weak (pjX12_text_38 h hk) ⟨rfl, rfl, rfl, rfl, trivial⟩
noncomputable def jX12_profile_87 (g : ps_G) : Option (ps_G) := some g
theorem pjX12_profile_87 {d : Nat} {Q : ps_Rs → ps_G → Prop} {g : ps_G}  {r : ps_G} (h : jX12_profile_87 g = some r) (hk : Q (.inl none) r) : ps_At mX12_profile (d + 1) 87 [] [] g Q := by
  unfold jX12_profile_87 at h
  refine sX12_profile_87 ?_
  cases h
  exact ⟨rfl, rfl, hk⟩
noncomputable def jX12_profile_52 (g : ps_G) (x0 : Nat) (x1 : Int32) (x2 : Int32) (x3 : Int32) (k0 : Int32) : Option (ps_G) := Option.bind (q_sI 12 0 g x0 (if k0 = 0 then (1 : Int32) else (0 : Int32))) fun g5 => Option.bind (q_fI 12 0 g5 x0) fun v6 => if ¬ v6 = 0 then (jX12_profile_87 g5) else (Option.bind (q_fR 12 59 g5 x0) fun v9 => Option.bind (v9) fun a10 => Option.bind (q_wI g5 a10 (((10 : Int32) * x1) + x2) x3) fun g11 => jX12_profile_87 g11)
theorem pjX12_profile_52 {d : Nat} {Q : ps_Rs → ps_G → Prop} {g : ps_G} {x0 : Nat} {x1 : Int32} {x2 : Int32} {x3 : Int32} {k0 : Int32} {r : ps_G} (h : jX12_profile_52 g x0 x1 x2 x3 k0 = some r) (hk : Q (.inl none) r) : ps_At mX12_profile (d + 1) 52 [(0, .ref x0), (1, .int x1), (2, .int x2), (3, .int x3)] [.int k0] g Q := by
  unfold jX12_profile_52 at h
  refine sX12_profile_52 ?_
  have kJ4 : ∀ w3 : Int32, w3 = (if k0 = 0 then (1 : Int32) else (0 : Int32)) → ps_At mX12_profile (d + 1) 65 [(0, .ref x0), (1, .int x1), (2, .int x2), (3, .int x3)] [.int w3, .ref x0] g Q := by
    rintro _ rfl
    refine sX12_profile_65 ?_
    replace h := q_be h
    obtain ⟨g5, hv, h⟩ := h
    replace hv := q_sI_e hv
    obtain ⟨_, cg5, dg5, yg5⟩ := hv
    replace h := q_be h
    obtain ⟨v6, hv, h⟩ := h
    replace hv := q_fI_e hv
    obtain ⟨_, cv6, dv6⟩ := hv
    refine ⟨_, cg5, dg5, rfl, rfl, _, yg5, ⟨some _, rfl⟩, _, _, cv6, dv6, ?_⟩
    refine And.intro (fun hc7 => ?_) (fun hc7 => ?_)
    · replace h := q_ifp (hc7) h
      exact ps_weak (pjX12_profile_87 h hk) trivial
    · replace h := q_ifn (hc7) h
      replace h := q_be h
      obtain ⟨v9, hv, h⟩ := h
      replace hv := q_fR_e hv
      obtain ⟨_, cv9, dv9⟩ := hv
      replace h := q_be h
      obtain ⟨a10, ea10, h⟩ := h
      subst ea10
      replace h := q_be h
      obtain ⟨g11, hv, h⟩ := h
      replace hv := q_wI_e hv
      obtain ⟨_, _, cg11, pg11, ig11, yg11⟩ := hv
      refine ⟨⟨some _, rfl⟩, _, _, cv9, dv9, _, _, cg11, pg11, ig11, _, yg11, ?_⟩
      exact ps_weak (pjX12_profile_87 h hk) trivial
  refine ⟨by decide, ⟨some _, rfl⟩, ?_⟩
  refine And.intro (fun hc2 => ?_) (fun hc2 => ?_)
  · refine sX12_profile_64 ?_
    exact ps_weak (kJ4 _ (if_pos (hc2)).symm) ⟨rfl, rfl, rfl, rfl, trivial⟩
  · exact ps_weak (kJ4 _ (if_neg (hc2)).symm) ⟨rfl, rfl, rfl, rfl, trivial⟩
noncomputable def jX12_profile_51 (g : ps_G) (x0 : Nat) (x1 : Int32) (x2 : Int32) (x3 : Int32) : Option (ps_G) := jX12_profile_52 g x0 x1 x2 x3 (0 : Int32)
theorem pjX12_profile_51 {d : Nat} {Q : ps_Rs → ps_G → Prop} {g : ps_G} {x0 : Nat} {x1 : Int32} {x2 : Int32} {x3 : Int32} {r : ps_G} (h : jX12_profile_51 g x0 x1 x2 x3 = some r) (hk : Q (.inl none) r) : ps_At mX12_profile (d + 1) 51 [(0, .ref x0), (1, .int x1), (2, .int x2), (3, .int x3)] [] g Q := by
  unfold jX12_profile_51 at h
  refine sX12_profile_51 ?_
  exact ps_weak (pjX12_profile_52 h hk) ⟨rfl, rfl, rfl, rfl, trivial⟩
noncomputable def jX12_profile_47 (g : ps_G) (x0 : Nat) (x1 : Int32) (x2 : Int32) (x3 : Int32) : Option (ps_G) := jX12_profile_52 g x0 x1 x2 x3 (1 : Int32)
theorem pjX12_profile_47 {d : Nat} {Q : ps_Rs → ps_G → Prop} {g : ps_G} {x0 : Nat} {x1 : Int32} {x2 : Int32} {x3 : Int32} {r : ps_G} (h : jX12_profile_47 g x0 x1 x2 x3 = some r) (hk : Q (.inl none) r) : ps_At mX12_profile (d + 1) 47 [(0, .ref x0), (1, .int x1), (2, .int x2), (3, .int x3)] [] g Q := by
  unfold jX12_profile_47 at h
  refine sX12_profile_47 ?_
  exact ps_weak (pjX12_profile_52 h hk) ⟨rfl, rfl, rfl, rfl, trivial⟩
noncomputable def jX12_profile_32 (g : ps_G) (x0 : Nat) (x1 : Int32) (x2 : Int32) (x3 : Int32) : Option (ps_G) := if ¬ x2 = (9 : Int32) then (jX12_profile_51 g x0 x1 x2 x3) else (if (fX12_in x3 (0 : Int32) (2 : Int32)) = 0 then (jX12_profile_51 g x0 x1 x2 x3) else (jX12_profile_47 g x0 x1 x2 x3))
theorem pjX12_profile_32 {d : Nat} {Q : ps_Rs → ps_G → Prop} {g : ps_G} {x0 : Nat} {x1 : Int32} {x2 : Int32} {x3 : Int32} {r : ps_G} (h : jX12_profile_32 g x0 x1 x2 x3 = some r) (hk : Q (.inl none) r) : ps_At mX12_profile (d + 1) 32 [(0, .ref x0), (1, .int x1), (2, .int x2), (3, .int x3)] [] g Q := by
  unfold jX12_profile_32 at h
  refine sX12_profile_32 ?_
  refine And.intro (fun hc15 => ?_) (fun hc15 => ?_)
  · replace h := q_ifp (hc15) h
    exact ps_weak (pjX12_profile_51 h hk) ⟨rfl, rfl, rfl, rfl, trivial⟩
  · replace h := q_ifn (hc15) h
    refine rX12_in rfl ?_
    refine And.intro (fun hc16 => ?_) (fun hc16 => ?_)
    · replace h := q_ifp (hc16) h
      exact ps_weak (pjX12_profile_51 h hk) ⟨rfl, rfl, rfl, rfl, trivial⟩
    · replace h := q_ifn (hc16) h
      exact ps_weak (pjX12_profile_47 h hk) ⟨rfl, rfl, rfl, rfl, trivial⟩
noncomputable def fX12_profile (g : ps_G) (x0 : Nat) (x1 : Int32) (x2 : Int32) (x3 : Int32) : Option (ps_G) := if (fX12_in x1 (0 : Int32) (3 : Int32)) = 0 then (jX12_profile_51 g x0 x1 x2 x3) else (if (fX12_in x2 (0 : Int32) (8 : Int32)) = 0 then (jX12_profile_32 g x0 x1 x2 x3) else (if ¬ (fX12_in x3 (-4096 : Int32) (4096 : Int32)) = 0 then (jX12_profile_47 g x0 x1 x2 x3) else (jX12_profile_32 g x0 x1 x2 x3)))
theorem rX12_profile {d : Nat} {Q : ps_Rs → ps_G → Prop} {g : ps_G} {x0 : Nat} {x1 : Int32} {x2 : Int32} {x3 : Int32} {r : ps_G} (h : fX12_profile g x0 x1 x2 x3 = some r) (hk : Q (.inl none) r) : ps_Ok mX12_profile (d + 1) [.ref x0, .int x1, .int x2, .int x3] g Q := by
  unfold fX12_profile at h
  refine sX12_profile_0 ?_
  refine rX12_in rfl ?_
  refine And.intro (fun hc1 => ?_) (fun hc1 => ?_)
  · replace h := q_ifp (hc1) h
    exact ps_weak (pjX12_profile_51 h hk) ⟨rfl, rfl, rfl, rfl, trivial⟩
  · replace h := q_ifn (hc1) h
    refine rX12_in rfl ?_
    refine And.intro (fun hc14 => ?_) (fun hc14 => ?_)
    · replace h := q_ifp (hc14) h
      exact ps_weak (pjX12_profile_32 h hk) ⟨rfl, rfl, rfl, rfl, trivial⟩
    · replace h := q_ifn (hc14) h
      refine rX12_in rfl ?_
      refine And.intro (fun hc21 => ?_) (fun hc21 => ?_)
      · replace h := q_ifp (hc21) h
        exact ps_weak (pjX12_profile_47 h hk) ⟨rfl, rfl, rfl, rfl, trivial⟩
      · replace h := q_ifn (hc21) h
        exact ps_weak (pjX12_profile_32 h hk) ⟨rfl, rfl, rfl, rfl, trivial⟩
noncomputable def fX12_cofactor (g : ps_G) (x0 : Nat) (x1 : Int32) (x2 : Int32) (x3 : Int32) : Option (Int64) := Option.bind (q_fR 12 59 g x0) fun v1 => Option.bind (v1) fun a2 => Option.bind (q_aI g a2 ((((10 : Int32) * x1) + ((3 : Int32) * (q_rem (x2 + (1 : Int32)) (3 : Int32)))) + (q_rem (x3 + (1 : Int32)) (3 : Int32)))) fun v3 => Option.bind (q_fR 12 59 g x0) fun v4 => Option.bind (v4) fun a5 => Option.bind (q_aI g a5 ((((10 : Int32) * x1) + ((3 : Int32) * (q_rem (x2 + (2 : Int32)) (3 : Int32)))) + (q_rem (x3 + (2 : Int32)) (3 : Int32)))) fun v6 => Option.bind (q_fR 12 59 g x0) fun v7 => Option.bind (v7) fun a8 => Option.bind (q_aI g a8 ((((10 : Int32) * x1) + ((3 : Int32) * (q_rem (x2 + (1 : Int32)) (3 : Int32)))) + (q_rem (x3 + (2 : Int32)) (3 : Int32)))) fun v9 => Option.bind (q_fR 12 59 g x0) fun v10 => Option.bind (v10) fun a11 => Option.bind (q_aI g a11 ((((10 : Int32) * x1) + ((3 : Int32) * (q_rem (x2 + (2 : Int32)) (3 : Int32)))) + (q_rem (x3 + (1 : Int32)) (3 : Int32)))) fun v12 => some (((Int32.toInt64 v3) * (Int32.toInt64 v6)) - ((Int32.toInt64 v9) * (Int32.toInt64 v12)))
theorem rX12_cofactor {d : Nat} {Q : ps_Rs → ps_G → Prop} {g : ps_G} {x0 : Nat} {x1 : Int32} {x2 : Int32} {x3 : Int32} {r : Int64} (h : fX12_cofactor g x0 x1 x2 x3 = some r) (hk : Q (.inl (some (.long r))) g) : ps_Ok mX12_cofactor d [.ref x0, .int x1, .int x2, .int x3] g Q := by
  unfold fX12_cofactor at h
  refine sX12_cofactor_0 ?_
  replace h := q_be h
  obtain ⟨v1, hv, h⟩ := h
  replace hv := q_fR_e hv
  obtain ⟨_, cv1, dv1⟩ := hv
  replace h := q_be h
  obtain ⟨a2, ea2, h⟩ := h
  subst ea2
  replace h := q_be h
  obtain ⟨v3, hv, h⟩ := h
  replace hv := q_aI_e hv
  obtain ⟨_, _, cv3, iv3, yv3⟩ := hv
  replace h := q_be h
  obtain ⟨v4, hv, h⟩ := h
  replace hv := q_fR_e hv
  obtain ⟨_, cv4, dv4⟩ := hv
  replace h := q_be h
  obtain ⟨a5, ea5, h⟩ := h
  subst ea5
  replace h := q_be h
  obtain ⟨v6, hv, h⟩ := h
  replace hv := q_aI_e hv
  obtain ⟨_, _, cv6, iv6, yv6⟩ := hv
  replace h := q_be h
  obtain ⟨v7, hv, h⟩ := h
  replace hv := q_fR_e hv
  obtain ⟨_, cv7, dv7⟩ := hv
  replace h := q_be h
  obtain ⟨a8, ea8, h⟩ := h
  subst ea8
  refine ⟨by decide, _, rfl, by decide, by decide, _, rfl, by decide, by decide, _, rfl, by decide, by decide, _, rfl, by decide, by decide, ⟨some _, rfl⟩, _, _, cv1, dv1, _, _, cv3, iv3, _, yv3, ⟨some _, rfl⟩, _, _, cv4, dv4, _, _, cv6, iv6, _, yv6, ⟨some _, rfl⟩, _, _, cv7, dv7, ?_⟩
  replace h := q_be h
  obtain ⟨v9, hv, h⟩ := h
  replace hv := q_aI_e hv
  obtain ⟨_, _, cv9, iv9, yv9⟩ := hv
  replace h := q_be h
  obtain ⟨v10, hv, h⟩ := h
  replace hv := q_fR_e hv
  obtain ⟨_, cv10, dv10⟩ := hv
  replace h := q_be h
  obtain ⟨a11, ea11, h⟩ := h
  subst ea11
  replace h := q_be h
  obtain ⟨v12, hv, h⟩ := h
  replace hv := q_aI_e hv
  obtain ⟨_, _, cv12, iv12, yv12⟩ := hv
  cases h
  exact ⟨_, _, cv9, iv9, _, yv9, ⟨some _, rfl⟩, _, _, cv10, dv10, _, _, cv12, iv12, _, yv12, rfl, rfl, hk⟩
def fX12_light (x0 : Int32) (x1 : Int32) : Int32 := (if ¬ x0 = 0 then (if ¬ x0 = (1 : Int32) then ((((4095 : Int32) * x1) / (255 : Int32)) + ((3 : Int32) * ((((4095 : Int32) * x1) * x1) / (65025 : Int32)))) / (4 : Int32) else (((4095 : Int32) * x1) * x1) / (65025 : Int32)) else ((4095 : Int32) * x1) / (255 : Int32))
theorem rX12_light {d : Nat} {Q : ps_Rs → ps_G → Prop} {g : ps_G} {x0 : Int32} {x1 : Int32} {r : Int32} (h : fX12_light x0 x1 = r) (hk : Q (.inl (some (.int r))) g) : ps_Ok mX12_light d [.int x0, .int x1] g Q := by
  unfold fX12_light at h
  refine sX12_light_0 ?_
  have kJ3 : ∀ w2 : Int32, w2 = (if ¬ x0 = 0 then (if ¬ x0 = (1 : Int32) then ((((4095 : Int32) * x1) / (255 : Int32)) + ((3 : Int32) * ((((4095 : Int32) * x1) * x1) / (65025 : Int32)))) / (4 : Int32) else (((4095 : Int32) * x1) * x1) / (65025 : Int32)) else ((4095 : Int32) * x1) / (255 : Int32)) → ps_At mX12_light d 46 [] [.int w2] g Q := by
    rintro _ rfl
    refine sX12_light_46 ?_
    subst h
    exact ⟨rfl, hk⟩
  refine ⟨by decide, _, rfl, by decide, by decide, _, rfl, by decide, ?_⟩
  refine And.intro (fun hc1 => ?_) (fun hc1 => ?_)
  · refine sX12_light_30 ?_
    have kJ6 : ∀ w5 : Int32, w5 = (if ¬ x0 = (1 : Int32) then ((((4095 : Int32) * x1) / (255 : Int32)) + ((3 : Int32) * ((((4095 : Int32) * x1) * x1) / (65025 : Int32)))) / (4 : Int32) else (((4095 : Int32) * x1) * x1) / (65025 : Int32)) → ps_At mX12_light d 46 [] [.int w5] g Q := by
      rintro _ rfl
      exact ps_weak (kJ3 _ (if_pos (hc1)).symm) trivial
    refine And.intro (fun hc4 => ?_) (fun hc4 => ?_)
    · refine sX12_light_39 ?_
      refine ⟨by decide, _, rfl, ?_⟩
      exact ps_weak (kJ6 _ (if_pos (hc4)).symm) trivial
    · exact ps_weak (kJ6 _ (if_neg (hc4)).symm) trivial
  · exact ps_weak (kJ3 _ (if_neg (hc1)).symm) trivial
noncomputable def jX12_nearestLight_68_11 (g : ps_G) (x1 : Int32) (x2 : Int64) (x4 : Int32) (x5 : Int64) (x7 : Int32) : Option ((Int32 × Int64 × Int32) ⊕ (Int32)) := some (.inl (x4, x5, x7 + (1 : Int32)))
theorem pjX12_nearestLight_68_11 {d : Nat} {Q : ps_Rs → ps_G → Prop} {g : ps_G} {x1 : Int32} {x2 : Int64} {x4 : Int32} {x5 : Int64} {x7 : Int32} {x : (Int32 × Int64 × Int32) ⊕ (Int32)} (h : jX12_nearestLight_68_11 g x1 x2 x4 x5 x7 = some x) (hh : ∀ s' : Int32 × Int64 × Int32, x = .inl s' → ps_At mX12_nearestLight (d + 1) 11 [(1, .int x1), (2, .long x2), (4, .int s'.1), (5, .long s'.2.1), (7, .int s'.2.2)] [] g Q) (he : ∀ r' : Int32, x = .inr r' → ps_At mX12_nearestLight (d + 1) 74 [(4, .int r')] [] g Q) : ps_At mX12_nearestLight (d + 1) 68 [(1, .int x1), (2, .long x2), (4, .int x4), (5, .long x5), (7, .int x7)] [] g Q := by
  unfold jX12_nearestLight_68_11 at h
  refine sX12_nearestLight_68 ?_
  refine ⟨by decide, ?_⟩
  exact ps_weak (hh (x4, x5, x7 + (1 : Int32)) (Option.some.inj h).symm) ⟨rfl, rfl, rfl, rfl, rfl, trivial⟩
noncomputable def jX12_nearestLight_60_11 (g : ps_G) (x1 : Int32) (x2 : Int64) (x7 : Int32) (x8 : Int64) : Option ((Int32 × Int64 × Int32) ⊕ (Int32)) := jX12_nearestLight_68_11 g x1 x2 x7 x8 x7
theorem pjX12_nearestLight_60_11 {d : Nat} {Q : ps_Rs → ps_G → Prop} {g : ps_G} {x1 : Int32} {x2 : Int64} {x7 : Int32} {x8 : Int64} {x : (Int32 × Int64 × Int32) ⊕ (Int32)} (h : jX12_nearestLight_60_11 g x1 x2 x7 x8 = some x) (hh : ∀ s' : Int32 × Int64 × Int32, x = .inl s' → ps_At mX12_nearestLight (d + 1) 11 [(1, .int x1), (2, .long x2), (4, .int s'.1), (5, .long s'.2.1), (7, .int s'.2.2)] [] g Q) (he : ∀ r' : Int32, x = .inr r' → ps_At mX12_nearestLight (d + 1) 74 [(4, .int r')] [] g Q) : ps_At mX12_nearestLight (d + 1) 60 [(1, .int x1), (2, .long x2), (7, .int x7), (8, .long x8)] [] g Q := by
  unfold jX12_nearestLight_60_11 at h
  refine sX12_nearestLight_60 ?_
  refine ⟨by decide, by decide, ?_⟩
  exact ps_weak (pjX12_nearestLight_68_11 h hh he) ⟨rfl, rfl, rfl, rfl, rfl, trivial⟩
noncomputable def bX12_nearestLight_11 (g : ps_G) (x1 : Int32) (x2 : Int64) (x4 : Int32) (x5 : Int64) (x7 : Int32) : Option ((Int32 × Int64 × Int32) ⊕ (Int32)) := if (256 : Int32) ≤ x7 then (some (.inr x4)) else (if (lg_cmp x5 (0 : Int64)) < 0 then (jX12_nearestLight_60_11 g x1 x2 x7 (if 0 ≤ (lg_cmp ((Int32.toInt64 (fX12_light x1 x7)) - x2) (0 : Int64)) then (Int32.toInt64 (fX12_light x1 x7)) - x2 else -((Int32.toInt64 (fX12_light x1 x7)) - x2))) else (if (lg_cmp (if 0 ≤ (lg_cmp ((Int32.toInt64 (fX12_light x1 x7)) - x2) (0 : Int64)) then (Int32.toInt64 (fX12_light x1 x7)) - x2 else -((Int32.toInt64 (fX12_light x1 x7)) - x2)) x5) < 0 then (jX12_nearestLight_60_11 g x1 x2 x7 (if 0 ≤ (lg_cmp ((Int32.toInt64 (fX12_light x1 x7)) - x2) (0 : Int64)) then (Int32.toInt64 (fX12_light x1 x7)) - x2 else -((Int32.toInt64 (fX12_light x1 x7)) - x2))) else (jX12_nearestLight_68_11 g x1 x2 x4 x5 x7)))
theorem pbX12_nearestLight_11 {d : Nat} {Q : ps_Rs → ps_G → Prop} {g : ps_G} {x1 : Int32} {x2 : Int64} {x4 : Int32} {x5 : Int64} {x7 : Int32} {x : (Int32 × Int64 × Int32) ⊕ (Int32)} (h : bX12_nearestLight_11 g x1 x2 x4 x5 x7 = some x) (hh : ∀ s' : Int32 × Int64 × Int32, x = .inl s' → ps_At mX12_nearestLight (d + 1) 11 [(1, .int x1), (2, .long x2), (4, .int s'.1), (5, .long s'.2.1), (7, .int s'.2.2)] [] g Q) (he : ∀ r' : Int32, x = .inr r' → ps_At mX12_nearestLight (d + 1) 74 [(4, .int r')] [] g Q) : ps_At mX12_nearestLight (d + 1) 11 [(1, .int x1), (2, .long x2), (4, .int x4), (5, .long x5), (7, .int x7)] [] g Q := by
  unfold bX12_nearestLight_11 at h
  refine sX12_nearestLight_11 ?_
  refine And.intro (fun hc1 => ?_) (fun hc1 => ?_)
  · replace h := q_ifp (hc1) h
    exact ps_weak (he x4 (Option.some.inj h).symm) ⟨rfl, trivial⟩
  · replace h := q_ifn (hc1) h
    refine rX12_light rfl ?_
    have kJ8 : ∀ w7 : Int64, w7 = (if 0 ≤ (lg_cmp ((Int32.toInt64 (fX12_light x1 x7)) - x2) (0 : Int64)) then (Int32.toInt64 (fX12_light x1 x7)) - x2 else -((Int32.toInt64 (fX12_light x1 x7)) - x2)) → ps_At mX12_nearestLight (d + 1) 42 [(1, .int x1), (2, .long x2), (4, .int x4), (5, .long x5), (7, .int x7), (8, .long w7)] [] g Q := by
      rintro _ rfl
      refine sX12_nearestLight_42 ?_
      refine And.intro (fun hc9 => ?_) (fun hc9 => ?_)
      · replace h := q_ifp (hc9) h
        exact ps_weak (pjX12_nearestLight_60_11 h hh he) ⟨rfl, rfl, rfl, rfl, trivial⟩
      · replace h := q_ifn (hc9) h
        refine And.intro (fun hc10 => ?_) (fun hc10 => ?_)
        · replace h := q_ifp (hc10) h
          exact ps_weak (pjX12_nearestLight_60_11 h hh he) ⟨rfl, rfl, rfl, rfl, trivial⟩
        · replace h := q_ifn (hc10) h
          exact ps_weak (pjX12_nearestLight_68_11 h hh he) ⟨rfl, rfl, rfl, rfl, rfl, trivial⟩
    refine ⟨by decide, ?_⟩
    refine And.intro (fun hc6 => ?_) (fun hc6 => ?_)
    · exact ps_weak (kJ8 _ (if_pos (hc6)).symm) ⟨rfl, rfl, rfl, rfl, rfl, rfl, trivial⟩
    · refine ⟨by decide, ?_⟩
      exact ps_weak (kJ8 _ (if_neg (hc6)).symm) ⟨rfl, rfl, rfl, rfl, rfl, rfl, trivial⟩
noncomputable def fX12_nearestLight (g : ps_G) (x0 : Nat) (x1 : Int32) (x2 : Int64) : Option (Int32) := Option.bind (q_lp (fun s => bX12_nearestLight_11 g x1 x2 s.1 s.2.1 s.2.2) ((0 : Int32), (-1 : Int64), (0 : Int32))) fun s17 => some s17
theorem rX12_nearestLight {d : Nat} {Q : ps_Rs → ps_G → Prop} {g : ps_G} {x0 : Nat} {x1 : Int32} {x2 : Int64} {r : Int32} (h : fX12_nearestLight g x0 x1 x2 = some r) (hk : Q (.inl (some (.int r))) g) : ps_Ok mX12_nearestLight (d + 1) [.ref x0, .int x1, .long x2] g Q := by
  unfold fX12_nearestLight at h
  refine sX12_nearestLight_0 ?_
  refine ⟨by decide, by decide, by decide, ?_⟩
  replace h := q_be h
  obtain ⟨s17, hl, h⟩ := h
  refine ps_weak (q_lp_ok hl (fun s => ps_At mX12_nearestLight (d + 1) 11 [(1, .int x1), (2, .long x2), (4, .int s.1), (5, .long s.2.1), (7, .int s.2.2)] [] g Q) (fun r => ps_At mX12_nearestLight (d + 1) 74 [(4, .int r)] [] g Q) (fun s x hb hh he => pbX12_nearestLight_11 hb hh he) ?_) ⟨rfl, rfl, rfl, rfl, rfl, trivial⟩
  refine (?_ : ps_At mX12_nearestLight (d + 1) 74 [(4, .int s17)] [] g Q)
  refine sX12_nearestLight_74 ?_
  cases h
  exact ⟨rfl, hk⟩
noncomputable def bX12_convert_46 (g : ps_G) (x0 : Nat) (x1 : Int32) (x2 : Int32) (x3 : Int32) (x4 : Int64) (x6 : Int32) : Option ((Int64 × Int32) ⊕ (Int64)) := if (3 : Int32) ≤ x6 then (some (.inr x4)) else (Option.bind (q_fR 12 59 g x0) fun v9 => Option.bind (v9) fun a10 => Option.bind (q_aI g a10 (((10 : Int32) * x3) + x6)) fun v11 => Option.bind (q_ob 12 g x0) fun u12 => Option.bind (fX12_cofactor g x0 x3 (0 : Int32) x6) fun v13 => some (.inl (x4 + ((Int32.toInt64 v11) * v13), x6 + (1 : Int32))))
theorem pbX12_convert_46 {d : Nat} {Q : ps_Rs → ps_G → Prop} {g : ps_G} {x0 : Nat} {x1 : Int32} {x2 : Int32} {x3 : Int32} {x4 : Int64} {x6 : Int32} {x : (Int64 × Int32) ⊕ (Int64)} (h : bX12_convert_46 g x0 x1 x2 x3 x4 x6 = some x) (hh : ∀ s' : Int64 × Int32, x = .inl s' → ps_At mX12_convert (d + 4) 46 [(0, .ref x0), (1, .int x1), (2, .int x2), (3, .int x3), (4, .long s'.1), (6, .int s'.2)] [] g Q) (he : ∀ r' : Int64, x = .inr r' → ps_At mX12_convert (d + 4) 85 [(0, .ref x0), (1, .int x1), (2, .int x2), (3, .int x3), (4, .long r')] [] g Q) : ps_At mX12_convert (d + 4) 46 [(0, .ref x0), (1, .int x1), (2, .int x2), (3, .int x3), (4, .long x4), (6, .int x6)] [] g Q := by
  unfold bX12_convert_46 at h
  refine sX12_convert_46 ?_
  refine And.intro (fun hc7 => ?_) (fun hc7 => ?_)
  · replace h := q_ifp (hc7) h
    exact ps_weak (he x4 (Option.some.inj h).symm) ⟨rfl, rfl, rfl, rfl, rfl, trivial⟩
  · replace h := q_ifn (hc7) h
    replace h := q_be h
    obtain ⟨v9, hv, h⟩ := h
    replace hv := q_fR_e hv
    obtain ⟨_, cv9, dv9⟩ := hv
    replace h := q_be h
    obtain ⟨a10, ea10, h⟩ := h
    subst ea10
    replace h := q_be h
    obtain ⟨v11, hv, h⟩ := h
    replace hv := q_aI_e hv
    obtain ⟨_, _, cv11, iv11, yv11⟩ := hv
    replace h := q_be h
    obtain ⟨u12, hv, h⟩ := h
    replace hv := q_ob_e hv
    obtain ⟨_, cu12⟩ := hv
    replace h := q_be h
    obtain ⟨v13, hv, h⟩ := h
    refine ⟨⟨some _, rfl⟩, _, _, cv9, dv9, _, _, cv11, iv11, _, yv11, ⟨some _, rfl⟩, ⟨_, cu12⟩, ?_⟩
    refine rX12_cofactor hv ?_
    refine ⟨by decide, by decide, ?_⟩
    exact ps_weak (hh (x4 + ((Int32.toInt64 v11) * v13), x6 + (1 : Int32)) (Option.some.inj h).symm) ⟨rfl, rfl, rfl, rfl, rfl, rfl, trivial⟩
noncomputable def bX12_convert_142 (g : ps_G) (x0 : Nat) (x1 : Int32) (x2 : Int32) (x3 : Int32) (x4 : Int64) (x6 : Int32) (x7 : Int32) (x8 : Int32) (x9 : Int32) (x10 : Int32) : Option ((Int32 × Int32) ⊕ (Int32)) := if (3 : Int32) ≤ x10 then (some (.inr x9)) else (Option.bind (q_fR 12 59 g x0) fun v27 => Option.bind (v27) fun a28 => Option.bind (q_aI g a28 ((((10 : Int32) * x2) + ((3 : Int32) * x8)) + x10)) fun v29 => Option.bind (q_fR 12 59 g x0) fun v30 => Option.bind (v30) fun a31 => Option.bind (q_aI g a31 (((10 : Int32) * x2) + (9 : Int32))) fun v32 => some (.inl (x9 + (v29 * (fX12_light v32 (fX12_part x7 x10))), x10 + (1 : Int32))))
theorem pbX12_convert_142 {d : Nat} {Q : ps_Rs → ps_G → Prop} {g : ps_G} {x0 : Nat} {x1 : Int32} {x2 : Int32} {x3 : Int32} {x4 : Int64} {x6 : Int32} {x7 : Int32} {x8 : Int32} {x9 : Int32} {x10 : Int32} {x : (Int32 × Int32) ⊕ (Int32)} (h : bX12_convert_142 g x0 x1 x2 x3 x4 x6 x7 x8 x9 x10 = some x) (hh : ∀ s' : Int32 × Int32, x = .inl s' → ps_At mX12_convert (d + 4) 142 [(0, .ref x0), (1, .int x1), (2, .int x2), (3, .int x3), (4, .long x4), (6, .int x6), (7, .int x7), (8, .int x8), (9, .int s'.1), (10, .int s'.2)] [] g Q) (he : ∀ r' : Int32, x = .inr r' → ps_At mX12_convert (d + 4) 199 [(0, .ref x0), (1, .int x1), (2, .int x2), (3, .int x3), (4, .long x4), (6, .int x6), (7, .int x7), (8, .int x8), (9, .int r')] [] g Q) : ps_At mX12_convert (d + 4) 142 [(0, .ref x0), (1, .int x1), (2, .int x2), (3, .int x3), (4, .long x4), (6, .int x6), (7, .int x7), (8, .int x8), (9, .int x9), (10, .int x10)] [] g Q := by
  unfold bX12_convert_142 at h
  refine sX12_convert_142 ?_
  refine And.intro (fun hc25 => ?_) (fun hc25 => ?_)
  · replace h := q_ifp (hc25) h
    exact ps_weak (he x9 (Option.some.inj h).symm) ⟨rfl, rfl, rfl, rfl, rfl, rfl, rfl, rfl, rfl, trivial⟩
  · replace h := q_ifn (hc25) h
    replace h := q_be h
    obtain ⟨v27, hv, h⟩ := h
    replace hv := q_fR_e hv
    obtain ⟨_, cv27, dv27⟩ := hv
    replace h := q_be h
    obtain ⟨a28, ea28, h⟩ := h
    subst ea28
    replace h := q_be h
    obtain ⟨v29, hv, h⟩ := h
    replace hv := q_aI_e hv
    obtain ⟨_, _, cv29, iv29, yv29⟩ := hv
    replace h := q_be h
    obtain ⟨v30, hv, h⟩ := h
    replace hv := q_fR_e hv
    obtain ⟨_, cv30, dv30⟩ := hv
    replace h := q_be h
    obtain ⟨a31, ea31, h⟩ := h
    subst ea31
    replace h := q_be h
    obtain ⟨v32, hv, h⟩ := h
    replace hv := q_aI_e hv
    obtain ⟨_, _, cv32, iv32, yv32⟩ := hv
    refine ⟨⟨some _, rfl⟩, _, _, cv27, dv27, _, _, cv29, iv29, _, yv29, ⟨some _, rfl⟩, _, _, cv30, dv30, _, _, cv32, iv32, _, yv32, ?_⟩
    refine rX12_part rfl ?_
    refine rX12_light rfl ?_
    refine ⟨by decide, by decide, ?_⟩
    exact ps_weak (hh (x9 + (v29 * (fX12_light v32 (fX12_part x7 x10))), x10 + (1 : Int32)) (Option.some.inj h).symm) ⟨rfl, rfl, rfl, rfl, rfl, rfl, rfl, rfl, rfl, rfl, trivial⟩
noncomputable def bX12_convert_130 (x0 : Nat) (x1 : Int32) (x2 : Int32) (x3 : Int32) (x4 : Int64) (x6 : Int32) (x7 : Int32) (x8 : Int32) (g : ps_G) : Option ((Int32 × ps_G) ⊕ (ps_G)) := if (3 : Int32) ≤ x8 then (some (.inr g)) else (Option.bind (q_lp (fun s => bX12_convert_142 g x0 x1 x2 x3 x4 x6 x7 x8 s.1 s.2) ((0 : Int32), (0 : Int32))) fun s35 => Option.bind (q_fR 12 60 g x0) fun v36 => Option.bind (v36) fun a37 => Option.bind (q_wI g a37 x8 (q_shr s35 (10 : Int32))) fun g38 => some (.inl (x8 + (1 : Int32), g38)))
theorem pbX12_convert_130 {d : Nat} {Q : ps_Rs → ps_G → Prop}  {x0 : Nat} {x1 : Int32} {x2 : Int32} {x3 : Int32} {x4 : Int64} {x6 : Int32} {x7 : Int32} {x8 : Int32} {g : ps_G} {x : (Int32 × ps_G) ⊕ (ps_G)} (h : bX12_convert_130 x0 x1 x2 x3 x4 x6 x7 x8 g = some x) (hh : ∀ s' : Int32 × ps_G, x = .inl s' → ps_At mX12_convert (d + 4) 130 [(0, .ref x0), (1, .int x1), (2, .int x2), (3, .int x3), (4, .long x4), (6, .int x6), (7, .int x7), (8, .int s'.1)] [] s'.2 Q) (he : ∀ r' : ps_G, x = .inr r' → ps_At mX12_convert (d + 4) 217 [(0, .ref x0), (1, .int x1), (2, .int x2), (3, .int x3), (4, .long x4), (6, .int x6), (7, .int x7)] [] r' Q) : ps_At mX12_convert (d + 4) 130 [(0, .ref x0), (1, .int x1), (2, .int x2), (3, .int x3), (4, .long x4), (6, .int x6), (7, .int x7), (8, .int x8)] [] g Q := by
  unfold bX12_convert_130 at h
  refine sX12_convert_130 ?_
  refine And.intro (fun hc24 => ?_) (fun hc24 => ?_)
  · replace h := q_ifp (hc24) h
    exact ps_weak (he g (Option.some.inj h).symm) ⟨rfl, rfl, rfl, rfl, rfl, rfl, rfl, trivial⟩
  · replace h := q_ifn (hc24) h
    refine ⟨by decide, by decide, ?_⟩
    replace h := q_be h
    obtain ⟨s35, hl, h⟩ := h
    refine ps_weak (q_lp_ok hl (fun s => ps_At mX12_convert (d + 4) 142 [(0, .ref x0), (1, .int x1), (2, .int x2), (3, .int x3), (4, .long x4), (6, .int x6), (7, .int x7), (8, .int x8), (9, .int s.1), (10, .int s.2)] [] g Q) (fun r => ps_At mX12_convert (d + 4) 199 [(0, .ref x0), (1, .int x1), (2, .int x2), (3, .int x3), (4, .long x4), (6, .int x6), (7, .int x7), (8, .int x8), (9, .int r)] [] g Q) (fun s x hb hh he => pbX12_convert_142 hb hh he) ?_) ⟨rfl, rfl, rfl, rfl, rfl, rfl, rfl, rfl, rfl, rfl, trivial⟩
    refine (?_ : ps_At mX12_convert (d + 4) 199 [(0, .ref x0), (1, .int x1), (2, .int x2), (3, .int x3), (4, .long x4), (6, .int x6), (7, .int x7), (8, .int x8), (9, .int s35)] [] g Q)
    refine sX12_convert_199 ?_
    replace h := q_be h
    obtain ⟨v36, hv, h⟩ := h
    replace hv := q_fR_e hv
    obtain ⟨_, cv36, dv36⟩ := hv
    replace h := q_be h
    obtain ⟨a37, ea37, h⟩ := h
    subst ea37
    replace h := q_be h
    obtain ⟨g38, hv, h⟩ := h
    replace hv := q_wI_e hv
    obtain ⟨_, _, cg38, pg38, ig38, yg38⟩ := hv
    refine ⟨⟨some _, rfl⟩, _, _, cv36, dv36, _, _, cg38, pg38, ig38, _, yg38, by decide, ?_⟩
    exact ps_weak (hh (x8 + (1 : Int32), g38) (Option.some.inj h).symm) ⟨rfl, rfl, rfl, rfl, rfl, rfl, rfl, rfl, trivial⟩
noncomputable def bX12_convert_242 (g : ps_G) (x0 : Nat) (x1 : Int32) (x2 : Int32) (x3 : Int32) (x4 : Int64) (x6 : Int32) (x8 : Int32) (x9 : Int32) (x10 : Int64) (x12 : Int32) : Option ((Int64 × Int32) ⊕ (Int64)) := if (3 : Int32) ≤ x12 then (some (.inr x10)) else (Option.bind (q_fR 12 60 g x0) fun v45 => Option.bind (v45) fun a46 => Option.bind (q_aI g a46 x12) fun v47 => Option.bind (q_ob 12 g x0) fun u48 => Option.bind (fX12_cofactor g x0 x3 x12 x9) fun v49 => some (.inl (x10 + ((Int32.toInt64 v47) * v49), x12 + (1 : Int32))))
theorem pbX12_convert_242 {d : Nat} {Q : ps_Rs → ps_G → Prop} {g : ps_G} {x0 : Nat} {x1 : Int32} {x2 : Int32} {x3 : Int32} {x4 : Int64} {x6 : Int32} {x8 : Int32} {x9 : Int32} {x10 : Int64} {x12 : Int32} {x : (Int64 × Int32) ⊕ (Int64)} (h : bX12_convert_242 g x0 x1 x2 x3 x4 x6 x8 x9 x10 x12 = some x) (hh : ∀ s' : Int64 × Int32, x = .inl s' → ps_At mX12_convert (d + 4) 242 [(0, .ref x0), (1, .int x1), (2, .int x2), (3, .int x3), (4, .long x4), (6, .int x6), (8, .int x8), (9, .int x9), (10, .long s'.1), (12, .int s'.2)] [] g Q) (he : ∀ r' : Int64, x = .inr r' → ps_At mX12_convert (d + 4) 277 [(0, .ref x0), (1, .int x1), (2, .int x2), (3, .int x3), (4, .long x4), (6, .int x6), (8, .int x8), (9, .int x9), (10, .long r')] [] g Q) : ps_At mX12_convert (d + 4) 242 [(0, .ref x0), (1, .int x1), (2, .int x2), (3, .int x3), (4, .long x4), (6, .int x6), (8, .int x8), (9, .int x9), (10, .long x10), (12, .int x12)] [] g Q := by
  unfold bX12_convert_242 at h
  refine sX12_convert_242 ?_
  refine And.intro (fun hc43 => ?_) (fun hc43 => ?_)
  · replace h := q_ifp (hc43) h
    exact ps_weak (he x10 (Option.some.inj h).symm) ⟨rfl, rfl, rfl, rfl, rfl, rfl, rfl, rfl, rfl, trivial⟩
  · replace h := q_ifn (hc43) h
    replace h := q_be h
    obtain ⟨v45, hv, h⟩ := h
    replace hv := q_fR_e hv
    obtain ⟨_, cv45, dv45⟩ := hv
    replace h := q_be h
    obtain ⟨a46, ea46, h⟩ := h
    subst ea46
    replace h := q_be h
    obtain ⟨v47, hv, h⟩ := h
    replace hv := q_aI_e hv
    obtain ⟨_, _, cv47, iv47, yv47⟩ := hv
    replace h := q_be h
    obtain ⟨u48, hv, h⟩ := h
    replace hv := q_ob_e hv
    obtain ⟨_, cu48⟩ := hv
    replace h := q_be h
    obtain ⟨v49, hv, h⟩ := h
    refine ⟨⟨some _, rfl⟩, _, _, cv45, dv45, _, _, cv47, iv47, _, yv47, ⟨some _, rfl⟩, ⟨_, cu48⟩, ?_⟩
    refine rX12_cofactor hv ?_
    refine ⟨by decide, by decide, ?_⟩
    exact ps_weak (hh (x10 + ((Int32.toInt64 v47) * v49), x12 + (1 : Int32)) (Option.some.inj h).symm) ⟨rfl, rfl, rfl, rfl, rfl, rfl, rfl, rfl, rfl, rfl, trivial⟩
noncomputable def bX12_convert_230 (g : ps_G) (x0 : Nat) (x1 : Int32) (x2 : Int32) (x3 : Int32) (x4 : Int64) (x6 : Int32) (x8 : Int32) (x9 : Int32) : Option ((Int32 × Int32) ⊕ (Int32)) := if (3 : Int32) ≤ x9 then (some (.inr x8)) else (Option.bind (q_lp (fun s => bX12_convert_242 g x0 x1 x2 x3 x4 x6 x8 x9 s.1 s.2) ((0 : Int64), (0 : Int32))) fun s52 => Option.bind (q_ldiv (s52 * (1024 : Int64)) x4) fun v53 => Option.bind (q_fR 12 59 g x0) fun v57 => Option.bind (v57) fun a58 => Option.bind (q_aI g a58 (((10 : Int32) * x3) + (9 : Int32))) fun v59 => Option.bind (q_ob 12 g x0) fun u60 => Option.bind (fX12_nearestLight g x0 v59 (if 0 ≤ (lg_cmp v53 (0 : Int64)) then (if (lg_cmp v53 (4095 : Int64)) ≤ 0 then v53 else (4095 : Int64)) else (0 : Int64))) fun v61 => some (.inl (x8 ||| (q_shl v61 ((16 : Int32) - ((8 : Int32) * x9))), x9 + (1 : Int32))))
theorem pbX12_convert_230 {d : Nat} {Q : ps_Rs → ps_G → Prop} {g : ps_G} {x0 : Nat} {x1 : Int32} {x2 : Int32} {x3 : Int32} {x4 : Int64} {x6 : Int32} {x8 : Int32} {x9 : Int32} {x : (Int32 × Int32) ⊕ (Int32)} (h : bX12_convert_230 g x0 x1 x2 x3 x4 x6 x8 x9 = some x) (hh : ∀ s' : Int32 × Int32, x = .inl s' → ps_At mX12_convert (d + 4) 230 [(0, .ref x0), (1, .int x1), (2, .int x2), (3, .int x3), (4, .long x4), (6, .int x6), (8, .int s'.1), (9, .int s'.2)] [] g Q) (he : ∀ r' : Int32, x = .inr r' → ps_At mX12_convert (d + 4) 356 [(0, .ref x0), (1, .int x1), (2, .int x2), (3, .int x3), (4, .long x4), (6, .int x6), (8, .int r')] [] g Q) : ps_At mX12_convert (d + 4) 230 [(0, .ref x0), (1, .int x1), (2, .int x2), (3, .int x3), (4, .long x4), (6, .int x6), (8, .int x8), (9, .int x9)] [] g Q := by
  unfold bX12_convert_230 at h
  refine sX12_convert_230 ?_
  refine And.intro (fun hc42 => ?_) (fun hc42 => ?_)
  · replace h := q_ifp (hc42) h
    exact ps_weak (he x8 (Option.some.inj h).symm) ⟨rfl, rfl, rfl, rfl, rfl, rfl, rfl, trivial⟩
  · replace h := q_ifn (hc42) h
    refine ⟨by decide, by decide, ?_⟩
    replace h := q_be h
    obtain ⟨s52, hl, h⟩ := h
    refine ps_weak (q_lp_ok hl (fun s => ps_At mX12_convert (d + 4) 242 [(0, .ref x0), (1, .int x1), (2, .int x2), (3, .int x3), (4, .long x4), (6, .int x6), (8, .int x8), (9, .int x9), (10, .long s.1), (12, .int s.2)] [] g Q) (fun r => ps_At mX12_convert (d + 4) 277 [(0, .ref x0), (1, .int x1), (2, .int x2), (3, .int x3), (4, .long x4), (6, .int x6), (8, .int x8), (9, .int x9), (10, .long r)] [] g Q) (fun s x hb hh he => pbX12_convert_242 hb hh he) ?_) ⟨rfl, rfl, rfl, rfl, rfl, rfl, rfl, rfl, rfl, rfl, trivial⟩
    refine (?_ : ps_At mX12_convert (d + 4) 277 [(0, .ref x0), (1, .int x1), (2, .int x2), (3, .int x3), (4, .long x4), (6, .int x6), (8, .int x8), (9, .int x9), (10, .long s52)] [] g Q)
    refine sX12_convert_277 ?_
    replace h := q_be h
    obtain ⟨v53, hv, h⟩ := h
    replace hv := q_ldiv_e hv
    obtain ⟨zv53, yv53⟩ := hv
    have kJ56 : ∀ w55 : Int64, w55 = (if 0 ≤ (lg_cmp v53 (0 : Int64)) then (if (lg_cmp v53 (4095 : Int64)) ≤ 0 then v53 else (4095 : Int64)) else (0 : Int64)) → ps_At mX12_convert (d + 4) 316 [(0, .ref x0), (1, .int x1), (2, .int x2), (3, .int x3), (4, .long x4), (6, .int x6), (8, .int x8), (9, .int x9)] [.long w55] g Q := by
      rintro _ rfl
      refine sX12_convert_316 ?_
      replace h := q_be h
      obtain ⟨v57, hv, h⟩ := h
      replace hv := q_fR_e hv
      obtain ⟨_, cv57, dv57⟩ := hv
      replace h := q_be h
      obtain ⟨a58, ea58, h⟩ := h
      subst ea58
      replace h := q_be h
      obtain ⟨v59, hv, h⟩ := h
      replace hv := q_aI_e hv
      obtain ⟨_, _, cv59, iv59, yv59⟩ := hv
      replace h := q_be h
      obtain ⟨u60, hv, h⟩ := h
      replace hv := q_ob_e hv
      obtain ⟨_, cu60⟩ := hv
      replace h := q_be h
      obtain ⟨v61, hv, h⟩ := h
      refine ⟨by decide, ⟨some _, rfl⟩, ⟨some _, rfl⟩, _, _, cv57, dv57, _, _, cv59, iv59, _, yv59, ⟨_, cu60⟩, ?_⟩
      refine rX12_nearestLight hv ?_
      refine ⟨by decide, by decide, ?_⟩
      exact ps_weak (hh (x8 ||| (q_shl v61 ((16 : Int32) - ((8 : Int32) * x9))), x9 + (1 : Int32)) (Option.some.inj h).symm) ⟨rfl, rfl, rfl, rfl, rfl, rfl, rfl, rfl, trivial⟩
    refine ⟨zv53, _, yv53, by decide, ?_⟩
    refine And.intro (fun hc54 => ?_) (fun hc54 => ?_)
    · refine sX12_convert_299 ?_
      have kJ64 : ∀ w63 : Int64, w63 = (if (lg_cmp v53 (4095 : Int64)) ≤ 0 then v53 else (4095 : Int64)) → ps_At mX12_convert (d + 4) 316 [(0, .ref x0), (1, .int x1), (2, .int x2), (3, .int x3), (4, .long x4), (6, .int x6), (8, .int x8), (9, .int x9)] [.long w63] g Q := by
        rintro _ rfl
        exact ps_weak (kJ56 _ (if_pos (hc54)).symm) ⟨rfl, rfl, rfl, rfl, rfl, rfl, rfl, rfl, trivial⟩
      refine And.intro (fun hc62 => ?_) (fun hc62 => ?_)
      · refine sX12_convert_314 ?_
        exact ps_weak (kJ64 _ (if_pos (hc62)).symm) ⟨rfl, rfl, rfl, rfl, rfl, rfl, rfl, rfl, trivial⟩
      · exact ps_weak (kJ64 _ (if_neg (hc62)).symm) ⟨rfl, rfl, rfl, rfl, rfl, rfl, rfl, rfl, trivial⟩
    · exact ps_weak (kJ56 _ (if_neg (hc54)).symm) ⟨rfl, rfl, rfl, rfl, rfl, rfl, rfl, rfl, trivial⟩
noncomputable def bX12_convert_101 (x0 : Nat) (x1 : Int32) (x2 : Int32) (x3 : Int32) (x4 : Int64) (x6 : Int32) (g : ps_G) : Option ((Int32 × ps_G) ⊕ (ps_G)) := Option.bind (q_fI 12 13 g x0) fun v18 => Option.bind (q_fI 12 14 g x0) fun v19 => if (v18 * v19) ≤ x6 then (some (.inr g)) else (Option.bind (q_ob 12 g x0) fun u22 => Option.bind (fX12_get g x0 x1 ((17 : Int32) + x6)) fun v23 => Option.bind (q_lp (fun s => bX12_convert_130 x0 x1 x2 x3 x4 x6 v23 s.1 s.2) ((0 : Int32), g)) fun s41 => Option.bind (q_lp (fun s => bX12_convert_230 s41 x0 x1 x2 x3 x4 x6 s.1 s.2) (q_shl (fX12_alpha v23) (24 : Int32), (0 : Int32))) fun s67 => Option.bind (q_ob 12 s41 x0) fun u68 => Option.bind (fX12_put s41 x0 x1 ((17 : Int32) + x6) s67) fun v69 => some (.inl (x6 + (1 : Int32), v69)))
theorem pbX12_convert_101 {d : Nat} {Q : ps_Rs → ps_G → Prop}  {x0 : Nat} {x1 : Int32} {x2 : Int32} {x3 : Int32} {x4 : Int64} {x6 : Int32} {g : ps_G} {x : (Int32 × ps_G) ⊕ (ps_G)} (h : bX12_convert_101 x0 x1 x2 x3 x4 x6 g = some x) (hh : ∀ s' : Int32 × ps_G, x = .inl s' → ps_At mX12_convert (d + 4) 101 [(0, .ref x0), (1, .int x1), (2, .int x2), (3, .int x3), (4, .long x4), (6, .int s'.1)] [] s'.2 Q) (he : ∀ r' : ps_G, x = .inr r' → ps_At mX12_convert (d + 4) 374 [(0, .ref x0)] [] r' Q) : ps_At mX12_convert (d + 4) 101 [(0, .ref x0), (1, .int x1), (2, .int x2), (3, .int x3), (4, .long x4), (6, .int x6)] [] g Q := by
  unfold bX12_convert_101 at h
  refine sX12_convert_101 ?_
  replace h := q_be h
  obtain ⟨v18, hv, h⟩ := h
  replace hv := q_fI_e hv
  obtain ⟨_, cv18, dv18⟩ := hv
  replace h := q_be h
  obtain ⟨v19, hv, h⟩ := h
  replace hv := q_fI_e hv
  obtain ⟨_, cv19, dv19⟩ := hv
  refine ⟨⟨some _, rfl⟩, _, _, cv18, dv18, ⟨some _, rfl⟩, _, _, cv19, dv19, ?_⟩
  refine And.intro (fun hc20 => ?_) (fun hc20 => ?_)
  · replace h := q_ifp (hc20) h
    exact ps_weak (he g (Option.some.inj h).symm) ⟨rfl, trivial⟩
  · replace h := q_ifn (hc20) h
    replace h := q_be h
    obtain ⟨u22, hv, h⟩ := h
    replace hv := q_ob_e hv
    obtain ⟨_, cu22⟩ := hv
    replace h := q_be h
    obtain ⟨v23, hv, h⟩ := h
    refine ⟨⟨some _, rfl⟩, ⟨_, cu22⟩, ?_⟩
    refine rX12_get hv ?_
    refine ⟨by decide, by decide, ?_⟩
    replace h := q_be h
    obtain ⟨s41, hl, h⟩ := h
    refine ps_weak (q_lp_ok hl (fun s => ps_At mX12_convert (d + 4) 130 [(0, .ref x0), (1, .int x1), (2, .int x2), (3, .int x3), (4, .long x4), (6, .int x6), (7, .int v23), (8, .int s.1)] [] s.2 Q) (fun r => ps_At mX12_convert (d + 4) 217 [(0, .ref x0), (1, .int x1), (2, .int x2), (3, .int x3), (4, .long x4), (6, .int x6), (7, .int v23)] [] r Q) (fun s x hb hh he => pbX12_convert_130 hb hh he) ?_) ⟨rfl, rfl, rfl, rfl, rfl, rfl, rfl, rfl, trivial⟩
    refine (?_ : ps_At mX12_convert (d + 4) 217 [(0, .ref x0), (1, .int x1), (2, .int x2), (3, .int x3), (4, .long x4), (6, .int x6), (7, .int v23)] [] s41 Q)
    refine sX12_convert_217 ?_
    refine rX12_alpha rfl ?_
    refine ⟨by decide, by decide, ?_⟩
    replace h := q_be h
    obtain ⟨s67, hl, h⟩ := h
    refine ps_weak (q_lp_ok hl (fun s => ps_At mX12_convert (d + 4) 230 [(0, .ref x0), (1, .int x1), (2, .int x2), (3, .int x3), (4, .long x4), (6, .int x6), (8, .int s.1), (9, .int s.2)] [] s41 Q) (fun r => ps_At mX12_convert (d + 4) 356 [(0, .ref x0), (1, .int x1), (2, .int x2), (3, .int x3), (4, .long x4), (6, .int x6), (8, .int r)] [] s41 Q) (fun s x hb hh he => pbX12_convert_230 hb hh he) ?_) ⟨rfl, rfl, rfl, rfl, rfl, rfl, rfl, rfl, trivial⟩
    refine (?_ : ps_At mX12_convert (d + 4) 356 [(0, .ref x0), (1, .int x1), (2, .int x2), (3, .int x3), (4, .long x4), (6, .int x6), (8, .int s67)] [] s41 Q)
    refine sX12_convert_356 ?_
    replace h := q_be h
    obtain ⟨u68, hv, h⟩ := h
    replace hv := q_ob_e hv
    obtain ⟨_, cu68⟩ := hv
    replace h := q_be h
    obtain ⟨v69, hv, h⟩ := h
    refine ⟨⟨some _, rfl⟩, ⟨_, cu68⟩, ?_⟩
    refine rX12_put hv ?_
    refine ⟨by decide, ?_⟩
    exact ps_weak (hh (x6 + (1 : Int32), v69) (Option.some.inj h).symm) ⟨rfl, rfl, rfl, rfl, rfl, rfl, trivial⟩
noncomputable def jX12_convert_26 (g : ps_G) (x0 : Nat) (x1 : Int32) (x2 : Int32) (x3 : Int32) (k0 : Nat) (k1 : Nat) (k2 : Int32) (k3 : Int32) : Option (ps_G) := Option.bind (q_ob 12 g k1) fun u2 => Option.bind (fX12_why g k1 k2 k3) fun v3 => Option.bind (q_sI 12 0 g k0 v3) fun g4 => Option.bind (q_fI 12 0 g4 x0) fun v5 => if v5 ≤ 0 then (Option.bind (q_lp (fun s => bX12_convert_46 g4 x0 x1 x2 x3 s.1 s.2) ((0 : Int64), (0 : Int32))) fun s16 => if ¬ (lg_cmp s16 (0 : Int64)) = 0 then (Option.bind (q_lp (fun s => bX12_convert_101 x0 x1 x2 x3 s16 s.1 s.2) ((0 : Int32), g4)) fun s72 => Option.bind (q_ob 12 s72 x0) fun u73 => Option.bind (fX12_edited s72 x0) fun v74 => Option.bind (q_ob 12 v74 x0) fun u75 => Option.bind (fX12_forget v74 x0) fun v76 => some v76) else (Option.bind (q_sI 12 0 g4 x0 (3 : Int32)) fun g77 => some g77)) else (some g4)
theorem pjX12_convert_26 {d : Nat} {Q : ps_Rs → ps_G → Prop} {g : ps_G} {x0 : Nat} {x1 : Int32} {x2 : Int32} {x3 : Int32} {k0 : Nat} {k1 : Nat} {k2 : Int32} {k3 : Int32} {r : ps_G} (h : jX12_convert_26 g x0 x1 x2 x3 k0 k1 k2 k3 = some r) (hk : Q (.inl none) r) : ps_At mX12_convert (d + 4) 26 [(0, .ref x0), (1, .int x1), (2, .int x2), (3, .int x3)] [.int k3, .int k2, .ref k1, .ref k0] g Q := by
  unfold jX12_convert_26 at h
  refine sX12_convert_26 ?_
  replace h := q_be h
  obtain ⟨u2, hv, h⟩ := h
  replace hv := q_ob_e hv
  obtain ⟨_, cu2⟩ := hv
  replace h := q_be h
  obtain ⟨v3, hv, h⟩ := h
  refine ⟨⟨_, cu2⟩, ?_⟩
  refine rX12_why hv ?_
  replace h := q_be h
  obtain ⟨g4, hv, h⟩ := h
  replace hv := q_sI_e hv
  obtain ⟨_, cg4, dg4, yg4⟩ := hv
  replace h := q_be h
  obtain ⟨v5, hv, h⟩ := h
  replace hv := q_fI_e hv
  obtain ⟨_, cv5, dv5⟩ := hv
  refine ⟨_, cg4, dg4, rfl, rfl, _, yg4, ⟨some _, rfl⟩, _, _, cv5, dv5, ?_⟩
  refine And.intro (fun hc6 => ?_) (fun hc6 => ?_)
  · replace h := q_ifp (hc6) h
    refine sX12_convert_40 ?_
    refine ⟨by decide, by decide, ?_⟩
    replace h := q_be h
    obtain ⟨s16, hl, h⟩ := h
    refine ps_weak (q_lp_ok hl (fun s => ps_At mX12_convert (d + 4) 46 [(0, .ref x0), (1, .int x1), (2, .int x2), (3, .int x3), (4, .long s.1), (6, .int s.2)] [] g4 Q) (fun r => ps_At mX12_convert (d + 4) 85 [(0, .ref x0), (1, .int x1), (2, .int x2), (3, .int x3), (4, .long r)] [] g4 Q) (fun s x hb hh he => pbX12_convert_46 hb hh he) ?_) ⟨rfl, rfl, rfl, rfl, rfl, rfl, trivial⟩
    refine (?_ : ps_At mX12_convert (d + 4) 85 [(0, .ref x0), (1, .int x1), (2, .int x2), (3, .int x3), (4, .long s16)] [] g4 Q)
    refine sX12_convert_85 ?_
    refine And.intro (fun hc17 => ?_) (fun hc17 => ?_)
    · replace h := q_ifp (hc17) h
      refine sX12_convert_98 ?_
      refine ⟨by decide, ?_⟩
      replace h := q_be h
      obtain ⟨s72, hl, h⟩ := h
      refine ps_weak (q_lp_ok hl (fun s => ps_At mX12_convert (d + 4) 101 [(0, .ref x0), (1, .int x1), (2, .int x2), (3, .int x3), (4, .long s16), (6, .int s.1)] [] s.2 Q) (fun r => ps_At mX12_convert (d + 4) 374 [(0, .ref x0)] [] r Q) (fun s x hb hh he => pbX12_convert_101 hb hh he) ?_) ⟨rfl, rfl, rfl, rfl, rfl, rfl, trivial⟩
      refine (?_ : ps_At mX12_convert (d + 4) 374 [(0, .ref x0)] [] s72 Q)
      refine sX12_convert_374 ?_
      replace h := q_be h
      obtain ⟨u73, hv, h⟩ := h
      replace hv := q_ob_e hv
      obtain ⟨_, cu73⟩ := hv
      replace h := q_be h
      obtain ⟨v74, hv, h⟩ := h
      refine ⟨⟨some _, rfl⟩, ⟨_, cu73⟩, ?_⟩
      refine rX12_edited hv ?_
      replace h := q_be h
      obtain ⟨u75, hv, h⟩ := h
      replace hv := q_ob_e hv
      obtain ⟨_, cu75⟩ := hv
      replace h := q_be h
      obtain ⟨v76, hv, h⟩ := h
      refine ⟨⟨some _, rfl⟩, ⟨_, cu75⟩, ?_⟩
      refine rX12_forget hv ?_
      cases h
      exact ⟨rfl, rfl, hk⟩
    · replace h := q_ifn (hc17) h
      replace h := q_be h
      obtain ⟨g77, hv, h⟩ := h
      replace hv := q_sI_e hv
      obtain ⟨_, cg77, dg77, yg77⟩ := hv
      cases h
      exact ⟨⟨some _, rfl⟩, _, cg77, dg77, rfl, rfl, _, yg77, rfl, rfl, hk⟩
  · replace h := q_ifn (hc6) h
    cases h
    exact ⟨rfl, rfl, hk⟩
noncomputable def jX12_convert_25 (g : ps_G) (x0 : Nat) (x1 : Int32) (x2 : Int32) (x3 : Int32) (k0 : Nat) (k1 : Nat) (k2 : Int32) : Option (ps_G) := jX12_convert_26 g x0 x1 x2 x3 k0 k1 k2 (0 : Int32)
theorem pjX12_convert_25 {d : Nat} {Q : ps_Rs → ps_G → Prop} {g : ps_G} {x0 : Nat} {x1 : Int32} {x2 : Int32} {x3 : Int32} {k0 : Nat} {k1 : Nat} {k2 : Int32} {r : ps_G} (h : jX12_convert_25 g x0 x1 x2 x3 k0 k1 k2 = some r) (hk : Q (.inl none) r) : ps_At mX12_convert (d + 4) 25 [(0, .ref x0), (1, .int x1), (2, .int x2), (3, .int x3)] [.int k2, .ref k1, .ref k0] g Q := by
  unfold jX12_convert_25 at h
  refine sX12_convert_25 ?_
  exact ps_weak (pjX12_convert_26 h hk) ⟨rfl, rfl, rfl, rfl, trivial⟩
noncomputable def fX12_convert (g : ps_G) (x0 : Nat) (x1 : Int32) (x2 : Int32) (x3 : Int32) : Option (ps_G) := if (fX12_in x2 (0 : Int32) (3 : Int32)) = 0 then (jX12_convert_25 g x0 x1 x2 x3 x0 x0 x1) else (if (fX12_in x3 (0 : Int32) (3 : Int32)) = 0 then (jX12_convert_25 g x0 x1 x2 x3 x0 x0 x1) else (jX12_convert_26 g x0 x1 x2 x3 x0 x0 x1 (1 : Int32)))
theorem rX12_convert {d : Nat} {Q : ps_Rs → ps_G → Prop} {g : ps_G} {x0 : Nat} {x1 : Int32} {x2 : Int32} {x3 : Int32} {r : ps_G} (h : fX12_convert g x0 x1 x2 x3 = some r) (hk : Q (.inl none) r) : ps_Ok mX12_convert (d + 4) [.ref x0, .int x1, .int x2, .int x3] g Q := by
  unfold fX12_convert at h
  refine sX12_convert_0 ?_
  refine ⟨⟨some _, rfl⟩, ⟨some _, rfl⟩, ?_⟩
  refine rX12_in rfl ?_
  refine And.intro (fun hc1 => ?_) (fun hc1 => ?_)
  · replace h := q_ifp (hc1) h
    exact ps_weak (pjX12_convert_25 h hk) ⟨rfl, rfl, rfl, rfl, trivial⟩
  · replace h := q_ifn (hc1) h
    refine rX12_in rfl ?_
    refine And.intro (fun hc82 => ?_) (fun hc82 => ?_)
    · replace h := q_ifp (hc82) h
      exact ps_weak (pjX12_convert_25 h hk) ⟨rfl, rfl, rfl, rfl, trivial⟩
    · replace h := q_ifn (hc82) h
      exact ps_weak (pjX12_convert_26 h hk) ⟨rfl, rfl, rfl, rfl, trivial⟩
noncomputable def bX12_side_15 (g : ps_G) (x0 : Nat) (x1 : Int32) (x2 : Int32) (x3 : Int32) (x4 : Int32) (x5 : Int32) : Option ((Int32 × Int32 × Int32) ⊕ (Int32 × Int32)) := Option.bind (q_fR 12 62 g x0) fun v4 => Option.bind (v4) fun a5 => Option.bind (q_aI g a5 x1) fun v6 => Option.bind (q_fR 12 63 g x0) fun v7 => Option.bind (v7) fun a8 => Option.bind (q_aI g a8 x1) fun v9 => if (v6 + v9) ≤ x5 then (some (.inr (x3, x4))) else (Option.bind (q_fR 12 61 g x0) fun v12 => Option.bind (v12) fun a13 => Option.bind (q_aI g a13 x5) fun v14 => some (.inl ((if x3 ≤ (fX12_part v14 x2) then x3 else fX12_part v14 x2), (if (fX12_part v14 x2) ≤ x4 then x4 else fX12_part v14 x2), x5 + (1 : Int32))))
theorem pbX12_side_15 {d : Nat} {Q : ps_Rs → ps_G → Prop} {g : ps_G} {x0 : Nat} {x1 : Int32} {x2 : Int32} {x3 : Int32} {x4 : Int32} {x5 : Int32} {x : (Int32 × Int32 × Int32) ⊕ (Int32 × Int32)} (h : bX12_side_15 g x0 x1 x2 x3 x4 x5 = some x) (hh : ∀ s' : Int32 × Int32 × Int32, x = .inl s' → ps_At mX12_side (d + 1) 15 [(0, .ref x0), (1, .int x1), (2, .int x2), (3, .int s'.1), (4, .int s'.2.1), (5, .int s'.2.2)] [] g Q) (he : ∀ r' : Int32 × Int32, x = .inr r' → ps_At mX12_side (d + 1) 81 [(3, .int r'.1), (4, .int r'.2)] [] g Q) : ps_At mX12_side (d + 1) 15 [(0, .ref x0), (1, .int x1), (2, .int x2), (3, .int x3), (4, .int x4), (5, .int x5)] [] g Q := by
  unfold bX12_side_15 at h
  refine sX12_side_15 ?_
  replace h := q_be h
  obtain ⟨v4, hv, h⟩ := h
  replace hv := q_fR_e hv
  obtain ⟨_, cv4, dv4⟩ := hv
  replace h := q_be h
  obtain ⟨a5, ea5, h⟩ := h
  subst ea5
  replace h := q_be h
  obtain ⟨v6, hv, h⟩ := h
  replace hv := q_aI_e hv
  obtain ⟨_, _, cv6, iv6, yv6⟩ := hv
  replace h := q_be h
  obtain ⟨v7, hv, h⟩ := h
  replace hv := q_fR_e hv
  obtain ⟨_, cv7, dv7⟩ := hv
  replace h := q_be h
  obtain ⟨a8, ea8, h⟩ := h
  subst ea8
  replace h := q_be h
  obtain ⟨v9, hv, h⟩ := h
  replace hv := q_aI_e hv
  obtain ⟨_, _, cv9, iv9, yv9⟩ := hv
  refine ⟨⟨some _, rfl⟩, _, _, cv4, dv4, _, _, cv6, iv6, _, yv6, ⟨some _, rfl⟩, _, _, cv7, dv7, _, _, cv9, iv9, _, yv9, ?_⟩
  refine And.intro (fun hc10 => ?_) (fun hc10 => ?_)
  · replace h := q_ifp (hc10) h
    exact ps_weak (he (x3, x4) (Option.some.inj h).symm) ⟨rfl, rfl, trivial⟩
  · replace h := q_ifn (hc10) h
    replace h := q_be h
    obtain ⟨v12, hv, h⟩ := h
    replace hv := q_fR_e hv
    obtain ⟨_, cv12, dv12⟩ := hv
    replace h := q_be h
    obtain ⟨a13, ea13, h⟩ := h
    subst ea13
    replace h := q_be h
    obtain ⟨v14, hv, h⟩ := h
    replace hv := q_aI_e hv
    obtain ⟨_, _, cv14, iv14, yv14⟩ := hv
    refine ⟨⟨some _, rfl⟩, _, _, cv12, dv12, _, _, cv14, iv14, _, yv14, ?_⟩
    refine rX12_part rfl ?_
    have kJ17 : ∀ w16 : Int32, w16 = (if x3 ≤ (fX12_part v14 x2) then x3 else fX12_part v14 x2) → ps_At mX12_side (d + 1) 58 [(0, .ref x0), (1, .int x1), (2, .int x2), (4, .int x4), (5, .int x5), (6, .int (fX12_part v14 x2))] [.int w16] g Q := by
      rintro _ rfl
      refine sX12_side_58 ?_
      have kJ20 : ∀ w19 : Int32, w19 = (if (fX12_part v14 x2) ≤ x4 then x4 else fX12_part v14 x2) → ps_At mX12_side (d + 1) 73 [(0, .ref x0), (1, .int x1), (2, .int x2), (3, .int (if x3 ≤ (fX12_part v14 x2) then x3 else fX12_part v14 x2)), (5, .int x5)] [.int w19] g Q := by
        rintro _ rfl
        refine sX12_side_73 ?_
        refine ⟨by decide, by decide, ?_⟩
        exact ps_weak (hh ((if x3 ≤ (fX12_part v14 x2) then x3 else fX12_part v14 x2), (if (fX12_part v14 x2) ≤ x4 then x4 else fX12_part v14 x2), x5 + (1 : Int32)) (Option.some.inj h).symm) ⟨rfl, rfl, rfl, rfl, rfl, rfl, trivial⟩
      refine ⟨by decide, ?_⟩
      refine And.intro (fun hc18 => ?_) (fun hc18 => ?_)
      · refine sX12_side_71 ?_
        exact ps_weak (kJ20 _ (if_pos (hc18)).symm) ⟨rfl, rfl, rfl, rfl, rfl, trivial⟩
      · exact ps_weak (kJ20 _ (if_neg (hc18)).symm) ⟨rfl, rfl, rfl, rfl, rfl, trivial⟩
    refine ⟨by decide, ?_⟩
    refine And.intro (fun hc15 => ?_) (fun hc15 => ?_)
    · refine sX12_side_57 ?_
      exact ps_weak (kJ17 _ (if_pos (hc15)).symm) ⟨rfl, rfl, rfl, rfl, rfl, rfl, trivial⟩
    · exact ps_weak (kJ17 _ (if_neg (hc15)).symm) ⟨rfl, rfl, rfl, rfl, rfl, rfl, trivial⟩
noncomputable def fX12_side (g : ps_G) (x0 : Nat) (x1 : Int32) (x2 : Int32) : Option (Int32) := Option.bind (q_fR 12 62 g x0) fun v1 => Option.bind (v1) fun a2 => Option.bind (q_aI g a2 x1) fun v3 => Option.bind (q_lp (fun s => bX12_side_15 g x0 x1 x2 s.1 s.2.1 s.2.2) ((255 : Int32), (0 : Int32), v3)) fun s23 => some (s23.2 - s23.1)
theorem rX12_side {d : Nat} {Q : ps_Rs → ps_G → Prop} {g : ps_G} {x0 : Nat} {x1 : Int32} {x2 : Int32} {r : Int32} (h : fX12_side g x0 x1 x2 = some r) (hk : Q (.inl (some (.int r))) g) : ps_Ok mX12_side (d + 1) [.ref x0, .int x1, .int x2] g Q := by
  unfold fX12_side at h
  refine sX12_side_0 ?_
  replace h := q_be h
  obtain ⟨v1, hv, h⟩ := h
  replace hv := q_fR_e hv
  obtain ⟨_, cv1, dv1⟩ := hv
  replace h := q_be h
  obtain ⟨a2, ea2, h⟩ := h
  subst ea2
  replace h := q_be h
  obtain ⟨v3, hv, h⟩ := h
  replace hv := q_aI_e hv
  obtain ⟨_, _, cv3, iv3, yv3⟩ := hv
  refine ⟨by decide, by decide, ⟨some _, rfl⟩, _, _, cv1, dv1, _, _, cv3, iv3, _, yv3, by decide, ?_⟩
  replace h := q_be h
  obtain ⟨s23, hl, h⟩ := h
  refine ps_weak (q_lp_ok hl (fun s => ps_At mX12_side (d + 1) 15 [(0, .ref x0), (1, .int x1), (2, .int x2), (3, .int s.1), (4, .int s.2.1), (5, .int s.2.2)] [] g Q) (fun r => ps_At mX12_side (d + 1) 81 [(3, .int r.1), (4, .int r.2)] [] g Q) (fun s x hb hh he => pbX12_side_15 hb hh he) ?_) ⟨rfl, rfl, rfl, rfl, rfl, rfl, trivial⟩
  refine (?_ : ps_At mX12_side (d + 1) 81 [(3, .int s23.1), (4, .int s23.2)] [] g Q)
  refine sX12_side_81 ?_
  cases h
  exact ⟨rfl, hk⟩
def fX12_less (x0 : Int32) (x1 : Int32) (x2 : Int32) : Int32 := (if (fX12_part x0 x2) = (fX12_part x1 x2) then (if (x1 &&& (16777215 : Int32)) ≤ (x0 &&& (16777215 : Int32)) then (0 : Int32) else (1 : Int32)) else (if (fX12_part x1 x2) ≤ (fX12_part x0 x2) then (0 : Int32) else (1 : Int32)))
theorem rX12_less {d : Nat} {Q : ps_Rs → ps_G → Prop} {g : ps_G} {x0 : Int32} {x1 : Int32} {x2 : Int32} {r : Int32} (h : fX12_less x0 x1 x2 = r) (hk : Q (.inl (some (.int r))) g) : ps_Ok mX12_less (d + 1) [.int x0, .int x1, .int x2] g Q := by
  unfold fX12_less at h
  refine sX12_less_0 ?_
  refine rX12_part rfl ?_
  refine ⟨by decide, ?_⟩
  refine rX12_part rfl ?_
  have kJ3 : ∀ w2 : Int32, w2 = (if (fX12_part x0 x2) = (fX12_part x1 x2) then (if (x1 &&& (16777215 : Int32)) ≤ (x0 &&& (16777215 : Int32)) then (0 : Int32) else (1 : Int32)) else (if (fX12_part x1 x2) ≤ (fX12_part x0 x2) then (0 : Int32) else (1 : Int32))) → ps_At mX12_less (d + 1) 51 [] [.int w2] g Q := by
    rintro _ rfl
    refine sX12_less_51 ?_
    subst h
    exact ⟨rfl, q_ib (q_ib (Or.inl rfl) (Or.inr rfl)) (q_ib (Or.inl rfl) (Or.inr rfl)), hk⟩
  refine ⟨by decide, ?_⟩
  refine And.intro (fun hc1 => ?_) (fun hc1 => ?_)
  · refine sX12_less_33 ?_
    have kJ6 : ∀ w5 : Int32, w5 = (if (x1 &&& (16777215 : Int32)) ≤ (x0 &&& (16777215 : Int32)) then (0 : Int32) else (1 : Int32)) → ps_At mX12_less (d + 1) 51 [] [.int w5] g Q := by
      rintro _ rfl
      exact ps_weak (kJ3 _ (if_pos (hc1)).symm) trivial
    refine And.intro (fun hc4 => ?_) (fun hc4 => ?_)
    · refine sX12_less_50 ?_
      exact ps_weak (kJ6 _ (if_pos (hc4)).symm) trivial
    · exact ps_weak (kJ6 _ (if_neg (hc4)).symm) trivial
  · have kJ9 : ∀ w8 : Int32, w8 = (if (fX12_part x1 x2) ≤ (fX12_part x0 x2) then (0 : Int32) else (1 : Int32)) → ps_At mX12_less (d + 1) 51 [] [.int w8] g Q := by
      rintro _ rfl
      exact ps_weak (kJ3 _ (if_neg (hc1)).symm) trivial
    refine And.intro (fun hc7 => ?_) (fun hc7 => ?_)
    · refine sX12_less_29 ?_
      exact ps_weak (kJ9 _ (if_pos (hc7)).symm) trivial
    · exact ps_weak (kJ9 _ (if_neg (hc7)).symm) trivial
theorem zX12_less {x0 : Int32} {x1 : Int32} {x2 : Int32} : fX12_less x0 x1 x2 = 0 ∨ fX12_less x0 x1 x2 = 1 := by
  unfold fX12_less
  repeat' split
  all_goals first | exact Or.inl rfl | exact Or.inr rfl
noncomputable def bX12_sortBox_38 (x0 : Nat) (x1 : Int32) (x2 : Int32) (x3 : Int32) (x4 : Int32) (x5 : Int32) (x6 : Int32) (g : ps_G) : Option ((Int32 × ps_G) ⊕ (Int32 × ps_G)) := if x6 ≤ x3 then (some (.inr (x6, g))) else (Option.bind (q_fR 12 61 g x0) fun v14 => Option.bind (v14) fun a15 => Option.bind (q_aI g a15 (x6 - (1 : Int32))) fun v16 => if (fX12_less x5 v16 x2) = 0 then (some (.inr (x6, g))) else (Option.bind (q_fR 12 61 g x0) fun v19 => Option.bind (v19) fun a20 => Option.bind (q_fR 12 61 g x0) fun v21 => Option.bind (v21) fun a22 => Option.bind (q_aI g a22 (x6 - (1 : Int32))) fun v23 => Option.bind (q_wI g a20 x6 v23) fun g24 => some (.inl (x6 + (-1 : Int32), g24))))
theorem pbX12_sortBox_38 {d : Nat} {Q : ps_Rs → ps_G → Prop}  {x0 : Nat} {x1 : Int32} {x2 : Int32} {x3 : Int32} {x4 : Int32} {x5 : Int32} {x6 : Int32} {g : ps_G} {x : (Int32 × ps_G) ⊕ (Int32 × ps_G)} (h : bX12_sortBox_38 x0 x1 x2 x3 x4 x5 x6 g = some x) (hh : ∀ s' : Int32 × ps_G, x = .inl s' → ps_At mX12_sortBox (d + 2) 38 [(0, .ref x0), (1, .int x1), (2, .int x2), (3, .int x3), (4, .int x4), (5, .int x5), (6, .int s'.1)] [] s'.2 Q) (he : ∀ r' : Int32 × ps_G, x = .inr r' → ps_At mX12_sortBox (d + 2) 84 [(0, .ref x0), (1, .int x1), (2, .int x2), (3, .int x3), (4, .int x4), (5, .int x5), (6, .int r'.1)] [] r'.2 Q) : ps_At mX12_sortBox (d + 2) 38 [(0, .ref x0), (1, .int x1), (2, .int x2), (3, .int x3), (4, .int x4), (5, .int x5), (6, .int x6)] [] g Q := by
  unfold bX12_sortBox_38 at h
  refine sX12_sortBox_38 ?_
  refine And.intro (fun hc12 => ?_) (fun hc12 => ?_)
  · replace h := q_ifp (hc12) h
    exact ps_weak (he (x6, g) (Option.some.inj h).symm) ⟨rfl, rfl, rfl, rfl, rfl, rfl, rfl, trivial⟩
  · replace h := q_ifn (hc12) h
    replace h := q_be h
    obtain ⟨v14, hv, h⟩ := h
    replace hv := q_fR_e hv
    obtain ⟨_, cv14, dv14⟩ := hv
    replace h := q_be h
    obtain ⟨a15, ea15, h⟩ := h
    subst ea15
    replace h := q_be h
    obtain ⟨v16, hv, h⟩ := h
    replace hv := q_aI_e hv
    obtain ⟨_, _, cv16, iv16, yv16⟩ := hv
    refine ⟨⟨some _, rfl⟩, _, _, cv14, dv14, _, _, cv16, iv16, _, yv16, ?_⟩
    refine rX12_less rfl ?_
    refine And.intro (fun hc17 => ?_) (fun hc17 => ?_)
    · replace h := q_ifp (hc17) h
      exact ps_weak (he (x6, g) (Option.some.inj h).symm) ⟨rfl, rfl, rfl, rfl, rfl, rfl, rfl, trivial⟩
    · replace h := q_ifn (hc17) h
      replace h := q_be h
      obtain ⟨v19, hv, h⟩ := h
      replace hv := q_fR_e hv
      obtain ⟨_, cv19, dv19⟩ := hv
      replace h := q_be h
      obtain ⟨a20, ea20, h⟩ := h
      subst ea20
      replace h := q_be h
      obtain ⟨v21, hv, h⟩ := h
      replace hv := q_fR_e hv
      obtain ⟨_, cv21, dv21⟩ := hv
      replace h := q_be h
      obtain ⟨a22, ea22, h⟩ := h
      subst ea22
      replace h := q_be h
      obtain ⟨v23, hv, h⟩ := h
      replace hv := q_aI_e hv
      obtain ⟨_, _, cv23, iv23, yv23⟩ := hv
      replace h := q_be h
      obtain ⟨g24, hv, h⟩ := h
      replace hv := q_wI_e hv
      obtain ⟨_, _, cg24, pg24, ig24, yg24⟩ := hv
      refine ⟨⟨some _, rfl⟩, _, _, cv19, dv19, ⟨some _, rfl⟩, _, _, cv21, dv21, _, _, cv23, iv23, _, yv23, _, _, cg24, pg24, ig24, _, yg24, by decide, ?_⟩
      exact ps_weak (hh (x6 + (-1 : Int32), g24) (Option.some.inj h).symm) ⟨rfl, rfl, rfl, rfl, rfl, rfl, rfl, trivial⟩
noncomputable def jX12_sortBox_84_12 (g : ps_G) (x0 : Nat) (x1 : Int32) (x2 : Int32) (x3 : Int32) (x4 : Int32) (x5 : Int32) (x6 : Int32) : Option ((Int32 × ps_G) ⊕ (ps_G)) := Option.bind (q_fR 12 61 g x0) fun v30 => Option.bind (v30) fun a31 => Option.bind (q_wI g a31 x6 x5) fun g32 => some (.inl (x4 + (1 : Int32), g32))
theorem pjX12_sortBox_84_12 {d : Nat} {Q : ps_Rs → ps_G → Prop} {g : ps_G} {x0 : Nat} {x1 : Int32} {x2 : Int32} {x3 : Int32} {x4 : Int32} {x5 : Int32} {x6 : Int32} {x : (Int32 × ps_G) ⊕ (ps_G)} (h : jX12_sortBox_84_12 g x0 x1 x2 x3 x4 x5 x6 = some x) (hh : ∀ s' : Int32 × ps_G, x = .inl s' → ps_At mX12_sortBox (d + 2) 12 [(0, .ref x0), (1, .int x1), (2, .int x2), (3, .int x3), (4, .int s'.1)] [] s'.2 Q) (he : ∀ r' : ps_G, x = .inr r' → ps_At mX12_sortBox (d + 2) 99 [] [] r' Q) : ps_At mX12_sortBox (d + 2) 84 [(0, .ref x0), (1, .int x1), (2, .int x2), (3, .int x3), (4, .int x4), (5, .int x5), (6, .int x6)] [] g Q := by
  unfold jX12_sortBox_84_12 at h
  refine sX12_sortBox_84 ?_
  replace h := q_be h
  obtain ⟨v30, hv, h⟩ := h
  replace hv := q_fR_e hv
  obtain ⟨_, cv30, dv30⟩ := hv
  replace h := q_be h
  obtain ⟨a31, ea31, h⟩ := h
  subst ea31
  replace h := q_be h
  obtain ⟨g32, hv, h⟩ := h
  replace hv := q_wI_e hv
  obtain ⟨_, _, cg32, pg32, ig32, yg32⟩ := hv
  refine ⟨⟨some _, rfl⟩, _, _, cv30, dv30, _, _, cg32, pg32, ig32, _, yg32, by decide, ?_⟩
  exact ps_weak (hh (x4 + (1 : Int32), g32) (Option.some.inj h).symm) ⟨rfl, rfl, rfl, rfl, rfl, trivial⟩
noncomputable def bX12_sortBox_12 (x0 : Nat) (x1 : Int32) (x2 : Int32) (x3 : Int32) (x4 : Int32) (g : ps_G) : Option ((Int32 × ps_G) ⊕ (ps_G)) := Option.bind (q_fR 12 63 g x0) fun v4 => Option.bind (v4) fun a5 => Option.bind (q_aI g a5 x1) fun v6 => if (x3 + v6) ≤ x4 then (some (.inr g)) else (Option.bind (q_fR 12 61 g x0) fun v9 => Option.bind (v9) fun a10 => Option.bind (q_aI g a10 x4) fun v11 => Option.bind (q_lp (fun s => bX12_sortBox_38 x0 x1 x2 x3 x4 v11 s.1 s.2) (x4, g)) fun s29 => jX12_sortBox_84_12 s29.2 x0 x1 x2 x3 x4 v11 s29.1)
theorem pbX12_sortBox_12 {d : Nat} {Q : ps_Rs → ps_G → Prop}  {x0 : Nat} {x1 : Int32} {x2 : Int32} {x3 : Int32} {x4 : Int32} {g : ps_G} {x : (Int32 × ps_G) ⊕ (ps_G)} (h : bX12_sortBox_12 x0 x1 x2 x3 x4 g = some x) (hh : ∀ s' : Int32 × ps_G, x = .inl s' → ps_At mX12_sortBox (d + 2) 12 [(0, .ref x0), (1, .int x1), (2, .int x2), (3, .int x3), (4, .int s'.1)] [] s'.2 Q) (he : ∀ r' : ps_G, x = .inr r' → ps_At mX12_sortBox (d + 2) 99 [] [] r' Q) : ps_At mX12_sortBox (d + 2) 12 [(0, .ref x0), (1, .int x1), (2, .int x2), (3, .int x3), (4, .int x4)] [] g Q := by
  unfold bX12_sortBox_12 at h
  refine sX12_sortBox_12 ?_
  replace h := q_be h
  obtain ⟨v4, hv, h⟩ := h
  replace hv := q_fR_e hv
  obtain ⟨_, cv4, dv4⟩ := hv
  replace h := q_be h
  obtain ⟨a5, ea5, h⟩ := h
  subst ea5
  replace h := q_be h
  obtain ⟨v6, hv, h⟩ := h
  replace hv := q_aI_e hv
  obtain ⟨_, _, cv6, iv6, yv6⟩ := hv
  refine ⟨⟨some _, rfl⟩, _, _, cv4, dv4, _, _, cv6, iv6, _, yv6, ?_⟩
  refine And.intro (fun hc7 => ?_) (fun hc7 => ?_)
  · replace h := q_ifp (hc7) h
    exact ps_weak (he g (Option.some.inj h).symm) trivial
  · replace h := q_ifn (hc7) h
    replace h := q_be h
    obtain ⟨v9, hv, h⟩ := h
    replace hv := q_fR_e hv
    obtain ⟨_, cv9, dv9⟩ := hv
    replace h := q_be h
    obtain ⟨a10, ea10, h⟩ := h
    subst ea10
    replace h := q_be h
    obtain ⟨v11, hv, h⟩ := h
    replace hv := q_aI_e hv
    obtain ⟨_, _, cv11, iv11, yv11⟩ := hv
    refine ⟨⟨some _, rfl⟩, _, _, cv9, dv9, _, _, cv11, iv11, _, yv11, by decide, by decide, ?_⟩
    replace h := q_be h
    obtain ⟨s29, hl, h⟩ := h
    refine ps_weak (q_lp_ok hl (fun s => ps_At mX12_sortBox (d + 2) 38 [(0, .ref x0), (1, .int x1), (2, .int x2), (3, .int x3), (4, .int x4), (5, .int v11), (6, .int s.1)] [] s.2 Q) (fun r => ps_At mX12_sortBox (d + 2) 84 [(0, .ref x0), (1, .int x1), (2, .int x2), (3, .int x3), (4, .int x4), (5, .int v11), (6, .int r.1)] [] r.2 Q) (fun s x hb hh he => pbX12_sortBox_38 hb hh he) ?_) ⟨rfl, rfl, rfl, rfl, rfl, rfl, rfl, trivial⟩
    refine (?_ : ps_At mX12_sortBox (d + 2) 84 [(0, .ref x0), (1, .int x1), (2, .int x2), (3, .int x3), (4, .int x4), (5, .int v11), (6, .int s29.1)] [] s29.2 Q)
    exact ps_weak (pjX12_sortBox_84_12 h hh he) ⟨rfl, rfl, rfl, rfl, rfl, rfl, rfl, trivial⟩
noncomputable def fX12_sortBox (g : ps_G) (x0 : Nat) (x1 : Int32) (x2 : Int32) : Option (ps_G) := Option.bind (q_fR 12 62 g x0) fun v1 => Option.bind (v1) fun a2 => Option.bind (q_aI g a2 x1) fun v3 => Option.bind (q_lp (fun s => bX12_sortBox_12 x0 x1 x2 v3 s.1 s.2) (v3 + (1 : Int32), g)) fun s35 => some s35
theorem rX12_sortBox {d : Nat} {Q : ps_Rs → ps_G → Prop} {g : ps_G} {x0 : Nat} {x1 : Int32} {x2 : Int32} {r : ps_G} (h : fX12_sortBox g x0 x1 x2 = some r) (hk : Q (.inl none) r) : ps_Ok mX12_sortBox (d + 2) [.ref x0, .int x1, .int x2] g Q := by
  unfold fX12_sortBox at h
  refine sX12_sortBox_0 ?_
  replace h := q_be h
  obtain ⟨v1, hv, h⟩ := h
  replace hv := q_fR_e hv
  obtain ⟨_, cv1, dv1⟩ := hv
  replace h := q_be h
  obtain ⟨a2, ea2, h⟩ := h
  subst ea2
  replace h := q_be h
  obtain ⟨v3, hv, h⟩ := h
  replace hv := q_aI_e hv
  obtain ⟨_, _, cv3, iv3, yv3⟩ := hv
  refine ⟨⟨some _, rfl⟩, _, _, cv1, dv1, _, _, cv3, iv3, _, yv3, by decide, by decide, ?_⟩
  replace h := q_be h
  obtain ⟨s35, hl, h⟩ := h
  refine ps_weak (q_lp_ok hl (fun s => ps_At mX12_sortBox (d + 2) 12 [(0, .ref x0), (1, .int x1), (2, .int x2), (3, .int v3), (4, .int s.1)] [] s.2 Q) (fun r => ps_At mX12_sortBox (d + 2) 99 [] [] r Q) (fun s x hb hh he => pbX12_sortBox_12 hb hh he) ?_) ⟨rfl, rfl, rfl, rfl, rfl, trivial⟩
  refine (?_ : ps_At mX12_sortBox (d + 2) 99 [] [] s35 Q)
  refine sX12_sortBox_99 ?_
  cases h
  exact ⟨rfl, rfl, hk⟩
noncomputable def bX12_cutBox_19 (g : ps_G) (x0 : Nat) (x1 : Int32) (x5 : Int32) (x2 : Int32) (x3 : Int32) (x4 : Int32) (x6 : Int32) : Option ((Int32 × Int32 × Int32 × Int32) ⊕ (Int32 × Int32 × Int32)) := if (3 : Int32) ≤ x6 then (some (.inr (x2, x3, x4))) else (Option.bind (q_ob 12 g x0) fun u4 => Option.bind (fX12_side g x0 x5 x6) fun v5 => some (.inl ((if x4 < v5 then x5 else x2), (if x4 < v5 then x6 else x3), (if x4 < v5 then v5 else x4), x6 + (1 : Int32))))
theorem pbX12_cutBox_19 {d : Nat} {Q : ps_Rs → ps_G → Prop} {g : ps_G} {x0 : Nat} {x1 : Int32} {x5 : Int32} {x2 : Int32} {x3 : Int32} {x4 : Int32} {x6 : Int32} {x : (Int32 × Int32 × Int32 × Int32) ⊕ (Int32 × Int32 × Int32)} (h : bX12_cutBox_19 g x0 x1 x5 x2 x3 x4 x6 = some x) (hh : ∀ s' : Int32 × Int32 × Int32 × Int32, x = .inl s' → ps_At mX12_cutBox (d + 3) 19 [(0, .ref x0), (1, .int x1), (2, .int s'.1), (3, .int s'.2.1), (4, .int s'.2.2.1), (5, .int x5), (6, .int s'.2.2.2)] [] g Q) (he : ∀ r' : Int32 × Int32 × Int32, x = .inr r' → ps_At mX12_cutBox (d + 3) 61 [(0, .ref x0), (1, .int x1), (2, .int r'.1), (3, .int r'.2.1), (4, .int r'.2.2), (5, .int x5)] [] g Q) : ps_At mX12_cutBox (d + 3) 19 [(0, .ref x0), (1, .int x1), (2, .int x2), (3, .int x3), (4, .int x4), (5, .int x5), (6, .int x6)] [] g Q := by
  unfold bX12_cutBox_19 at h
  refine sX12_cutBox_19 ?_
  refine And.intro (fun hc2 => ?_) (fun hc2 => ?_)
  · replace h := q_ifp (hc2) h
    exact ps_weak (he (x2, x3, x4) (Option.some.inj h).symm) ⟨rfl, rfl, rfl, rfl, rfl, rfl, trivial⟩
  · replace h := q_ifn (hc2) h
    replace h := q_be h
    obtain ⟨u4, hv, h⟩ := h
    replace hv := q_ob_e hv
    obtain ⟨_, cu4⟩ := hv
    replace h := q_be h
    obtain ⟨v5, hv, h⟩ := h
    refine ⟨⟨some _, rfl⟩, ⟨_, cu4⟩, ?_⟩
    refine rX12_side hv ?_
    have kJ10 : ∀ w7 : Int32, w7 = (if x4 < v5 then x5 else x2) → ∀ w8 : Int32, w8 = (if x4 < v5 then x6 else x3) → ∀ w9 : Int32, w9 = (if x4 < v5 then v5 else x4) → ps_At mX12_cutBox (d + 3) 55 [(0, .ref x0), (1, .int x1), (2, .int w7), (3, .int w8), (4, .int w9), (5, .int x5), (6, .int x6)] [] g Q := by
      rintro _ rfl _ rfl _ rfl
      refine sX12_cutBox_55 ?_
      refine ⟨by decide, ?_⟩
      exact ps_weak (hh ((if x4 < v5 then x5 else x2), (if x4 < v5 then x6 else x3), (if x4 < v5 then v5 else x4), x6 + (1 : Int32)) (Option.some.inj h).symm) ⟨rfl, rfl, rfl, rfl, rfl, rfl, rfl, trivial⟩
    refine ⟨by decide, ?_⟩
    refine And.intro (fun hc6 => ?_) (fun hc6 => ?_)
    · refine sX12_cutBox_45 ?_
      refine ⟨by decide, by decide, by decide, ?_⟩
      exact ps_weak (kJ10 _ (if_pos (hc6)).symm _ (if_pos (hc6)).symm _ (if_pos (hc6)).symm) ⟨rfl, rfl, rfl, rfl, rfl, rfl, rfl, trivial⟩
    · exact ps_weak (kJ10 _ (if_neg (hc6)).symm _ (if_neg (hc6)).symm _ (if_neg (hc6)).symm) ⟨rfl, rfl, rfl, rfl, rfl, rfl, rfl, trivial⟩
noncomputable def bX12_cutBox_10 (g : ps_G) (x0 : Nat) (x1 : Int32) (x2 : Int32) (x3 : Int32) (x4 : Int32) (x5 : Int32) : Option ((Int32 × Int32 × Int32 × Int32) ⊕ (Int32 × Int32)) := if x1 ≤ x5 then (some (.inr (x2, x3))) else (Option.bind (q_lp (fun s => bX12_cutBox_19 g x0 x1 x5 s.1 s.2.1 s.2.2.1 s.2.2.2) (x2, x3, x4, (0 : Int32))) fun s13 => some (.inl (s13.1, s13.2.1, s13.2.2, x5 + (1 : Int32))))
theorem pbX12_cutBox_10 {d : Nat} {Q : ps_Rs → ps_G → Prop} {g : ps_G} {x0 : Nat} {x1 : Int32} {x2 : Int32} {x3 : Int32} {x4 : Int32} {x5 : Int32} {x : (Int32 × Int32 × Int32 × Int32) ⊕ (Int32 × Int32)} (h : bX12_cutBox_10 g x0 x1 x2 x3 x4 x5 = some x) (hh : ∀ s' : Int32 × Int32 × Int32 × Int32, x = .inl s' → ps_At mX12_cutBox (d + 3) 10 [(0, .ref x0), (1, .int x1), (2, .int s'.1), (3, .int s'.2.1), (4, .int s'.2.2.1), (5, .int s'.2.2.2)] [] g Q) (he : ∀ r' : Int32 × Int32, x = .inr r' → ps_At mX12_cutBox (d + 3) 67 [(0, .ref x0), (1, .int x1), (2, .int r'.1), (3, .int r'.2)] [] g Q) : ps_At mX12_cutBox (d + 3) 10 [(0, .ref x0), (1, .int x1), (2, .int x2), (3, .int x3), (4, .int x4), (5, .int x5)] [] g Q := by
  unfold bX12_cutBox_10 at h
  refine sX12_cutBox_10 ?_
  refine And.intro (fun hc1 => ?_) (fun hc1 => ?_)
  · replace h := q_ifp (hc1) h
    exact ps_weak (he (x2, x3) (Option.some.inj h).symm) ⟨rfl, rfl, rfl, rfl, trivial⟩
  · replace h := q_ifn (hc1) h
    refine ⟨by decide, ?_⟩
    replace h := q_be h
    obtain ⟨s13, hl, h⟩ := h
    refine ps_weak (q_lp_ok hl (fun s => ps_At mX12_cutBox (d + 3) 19 [(0, .ref x0), (1, .int x1), (2, .int s.1), (3, .int s.2.1), (4, .int s.2.2.1), (5, .int x5), (6, .int s.2.2.2)] [] g Q) (fun r => ps_At mX12_cutBox (d + 3) 61 [(0, .ref x0), (1, .int x1), (2, .int r.1), (3, .int r.2.1), (4, .int r.2.2), (5, .int x5)] [] g Q) (fun s x hb hh he => pbX12_cutBox_19 hb hh he) ?_) ⟨rfl, rfl, rfl, rfl, rfl, rfl, rfl, trivial⟩
    refine (?_ : ps_At mX12_cutBox (d + 3) 61 [(0, .ref x0), (1, .int x1), (2, .int s13.1), (3, .int s13.2.1), (4, .int s13.2.2), (5, .int x5)] [] g Q)
    refine sX12_cutBox_61 ?_
    refine ⟨by decide, ?_⟩
    exact ps_weak (hh (s13.1, s13.2.1, s13.2.2, x5 + (1 : Int32)) (Option.some.inj h).symm) ⟨rfl, rfl, rfl, rfl, rfl, rfl, trivial⟩
noncomputable def bX12_cutBox_101 (g : ps_G) (x0 : Nat) (x1 : Int32) (x2 : Int32) (x3 : Int32) (x5 : Int32) (x6 : Int32) (x7 : Int32) : Option ((Int32) ⊕ (Int32)) := if x6 ≤ x7 then (some (.inr x7)) else (Option.bind (q_fR 12 61 g x0) fun v28 => Option.bind (v28) fun a29 => Option.bind (q_aI g a29 (x5 + x7)) fun v30 => Option.bind (q_fR 12 61 g x0) fun v31 => Option.bind (v31) fun a32 => Option.bind (q_aI g a32 ((x5 + x7) - (1 : Int32))) fun v33 => if ¬ (fX12_part v30 x3) = (fX12_part v33 x3) then (some (.inr x7)) else (some (.inl (x7 + (1 : Int32)))))
theorem pbX12_cutBox_101 {d : Nat} {Q : ps_Rs → ps_G → Prop} {g : ps_G} {x0 : Nat} {x1 : Int32} {x2 : Int32} {x3 : Int32} {x5 : Int32} {x6 : Int32} {x7 : Int32} {x : (Int32) ⊕ (Int32)} (h : bX12_cutBox_101 g x0 x1 x2 x3 x5 x6 x7 = some x) (hh : ∀ s' : Int32, x = .inl s' → ps_At mX12_cutBox (d + 3) 101 [(0, .ref x0), (1, .int x1), (2, .int x2), (3, .int x3), (5, .int x5), (6, .int x6), (7, .int s')] [] g Q) (he : ∀ r' : Int32, x = .inr r' → ps_At mX12_cutBox (d + 3) 147 [(0, .ref x0), (1, .int x1), (2, .int x2), (3, .int x3), (5, .int x5), (6, .int x6), (7, .int r')] [] g Q) : ps_At mX12_cutBox (d + 3) 101 [(0, .ref x0), (1, .int x1), (2, .int x2), (3, .int x3), (5, .int x5), (6, .int x6), (7, .int x7)] [] g Q := by
  unfold bX12_cutBox_101 at h
  refine sX12_cutBox_101 ?_
  refine And.intro (fun hc26 => ?_) (fun hc26 => ?_)
  · replace h := q_ifp (hc26) h
    exact ps_weak (he x7 (Option.some.inj h).symm) ⟨rfl, rfl, rfl, rfl, rfl, rfl, rfl, trivial⟩
  · replace h := q_ifn (hc26) h
    replace h := q_be h
    obtain ⟨v28, hv, h⟩ := h
    replace hv := q_fR_e hv
    obtain ⟨_, cv28, dv28⟩ := hv
    replace h := q_be h
    obtain ⟨a29, ea29, h⟩ := h
    subst ea29
    replace h := q_be h
    obtain ⟨v30, hv, h⟩ := h
    replace hv := q_aI_e hv
    obtain ⟨_, _, cv30, iv30, yv30⟩ := hv
    refine ⟨⟨some _, rfl⟩, _, _, cv28, dv28, _, _, cv30, iv30, _, yv30, ?_⟩
    refine rX12_part rfl ?_
    replace h := q_be h
    obtain ⟨v31, hv, h⟩ := h
    replace hv := q_fR_e hv
    obtain ⟨_, cv31, dv31⟩ := hv
    replace h := q_be h
    obtain ⟨a32, ea32, h⟩ := h
    subst ea32
    replace h := q_be h
    obtain ⟨v33, hv, h⟩ := h
    replace hv := q_aI_e hv
    obtain ⟨_, _, cv33, iv33, yv33⟩ := hv
    refine ⟨⟨some _, rfl⟩, _, _, cv31, dv31, _, _, cv33, iv33, _, yv33, ?_⟩
    refine rX12_part rfl ?_
    refine And.intro (fun hc34 => ?_) (fun hc34 => ?_)
    · replace h := q_ifp (hc34) h
      exact ps_weak (he x7 (Option.some.inj h).symm) ⟨rfl, rfl, rfl, rfl, rfl, rfl, rfl, trivial⟩
    · replace h := q_ifn (hc34) h
      refine ⟨by decide, ?_⟩
      exact ps_weak (hh (x7 + (1 : Int32)) (Option.some.inj h).symm) ⟨rfl, rfl, rfl, rfl, rfl, rfl, rfl, trivial⟩
noncomputable def jX12_cutBox_196 (g : ps_G) (x0 : Nat) (x1 : Int32) (x2 : Int32) (x5 : Int32) (x6 : Int32) (x7 : Int32) : Option (Int32 × ps_G) := Option.bind (q_fR 12 63 g x0) fun v41 => Option.bind (v41) fun a42 => Option.bind (q_wI g a42 x2 x7) fun g43 => Option.bind (q_fR 12 62 g43 x0) fun v44 => Option.bind (v44) fun a45 => Option.bind (q_wI g43 a45 x1 (x5 + x7)) fun g46 => Option.bind (q_fR 12 63 g46 x0) fun v47 => Option.bind (v47) fun a48 => Option.bind (q_wI g46 a48 x1 (x6 - x7)) fun g49 => some ((1 : Int32), g49)
theorem pjX12_cutBox_196 {d : Nat} {Q : ps_Rs → ps_G → Prop} {g : ps_G} {x0 : Nat} {x1 : Int32} {x2 : Int32} {x5 : Int32} {x6 : Int32} {x7 : Int32} {r : Int32 × ps_G} (h : jX12_cutBox_196 g x0 x1 x2 x5 x6 x7 = some r) (hk : Q (.inl (some (.int r.1))) r.2) : ps_At mX12_cutBox (d + 3) 196 [(0, .ref x0), (1, .int x1), (2, .int x2), (5, .int x5), (6, .int x6), (7, .int x7)] [] g Q := by
  unfold jX12_cutBox_196 at h
  refine sX12_cutBox_196 ?_
  replace h := q_be h
  obtain ⟨v41, hv, h⟩ := h
  replace hv := q_fR_e hv
  obtain ⟨_, cv41, dv41⟩ := hv
  replace h := q_be h
  obtain ⟨a42, ea42, h⟩ := h
  subst ea42
  replace h := q_be h
  obtain ⟨g43, hv, h⟩ := h
  replace hv := q_wI_e hv
  obtain ⟨_, _, cg43, pg43, ig43, yg43⟩ := hv
  replace h := q_be h
  obtain ⟨v44, hv, h⟩ := h
  replace hv := q_fR_e hv
  obtain ⟨_, cv44, dv44⟩ := hv
  replace h := q_be h
  obtain ⟨a45, ea45, h⟩ := h
  subst ea45
  replace h := q_be h
  obtain ⟨g46, hv, h⟩ := h
  replace hv := q_wI_e hv
  obtain ⟨_, _, cg46, pg46, ig46, yg46⟩ := hv
  replace h := q_be h
  obtain ⟨v47, hv, h⟩ := h
  replace hv := q_fR_e hv
  obtain ⟨_, cv47, dv47⟩ := hv
  replace h := q_be h
  obtain ⟨a48, ea48, h⟩ := h
  subst ea48
  replace h := q_be h
  obtain ⟨g49, hv, h⟩ := h
  replace hv := q_wI_e hv
  obtain ⟨_, _, cg49, pg49, ig49, yg49⟩ := hv
  cases h
  exact ⟨⟨some _, rfl⟩, _, _, cv41, dv41, _, _, cg43, pg43, ig43, _, yg43, ⟨some _, rfl⟩, _, _, cv44, dv44, _, _, cg46, pg46, ig46, _, yg46, ⟨some _, rfl⟩, _, _, cv47, dv47, _, _, cg49, pg49, ig49, _, yg49, rfl, Or.inr rfl, hk⟩
noncomputable def bX12_cutBox_157 (g : ps_G) (x0 : Nat) (x1 : Int32) (x2 : Int32) (x3 : Int32) (x5 : Int32) (x6 : Int32) (x7 : Int32) : Option ((Int32) ⊕ (Int32)) := Option.bind (q_fR 12 61 g x0) fun v50 => Option.bind (v50) fun a51 => Option.bind (q_aI g a51 ((x5 + x7) - (1 : Int32))) fun v52 => Option.bind (q_fR 12 61 g x0) fun v53 => Option.bind (v53) fun a54 => Option.bind (q_aI g a54 (x5 + x7)) fun v55 => if ¬ (fX12_part v52 x3) = (fX12_part v55 x3) then (some (.inr x7)) else (some (.inl (x7 + (-1 : Int32))))
theorem pbX12_cutBox_157 {d : Nat} {Q : ps_Rs → ps_G → Prop} {g : ps_G} {x0 : Nat} {x1 : Int32} {x2 : Int32} {x3 : Int32} {x5 : Int32} {x6 : Int32} {x7 : Int32} {x : (Int32) ⊕ (Int32)} (h : bX12_cutBox_157 g x0 x1 x2 x3 x5 x6 x7 = some x) (hh : ∀ s' : Int32, x = .inl s' → ps_At mX12_cutBox (d + 3) 157 [(0, .ref x0), (1, .int x1), (2, .int x2), (3, .int x3), (5, .int x5), (6, .int x6), (7, .int s')] [] g Q) (he : ∀ r' : Int32, x = .inr r' → ps_At mX12_cutBox (d + 3) 196 [(0, .ref x0), (1, .int x1), (2, .int x2), (5, .int x5), (6, .int x6), (7, .int r')] [] g Q) : ps_At mX12_cutBox (d + 3) 157 [(0, .ref x0), (1, .int x1), (2, .int x2), (3, .int x3), (5, .int x5), (6, .int x6), (7, .int x7)] [] g Q := by
  unfold bX12_cutBox_157 at h
  refine sX12_cutBox_157 ?_
  replace h := q_be h
  obtain ⟨v50, hv, h⟩ := h
  replace hv := q_fR_e hv
  obtain ⟨_, cv50, dv50⟩ := hv
  replace h := q_be h
  obtain ⟨a51, ea51, h⟩ := h
  subst ea51
  replace h := q_be h
  obtain ⟨v52, hv, h⟩ := h
  replace hv := q_aI_e hv
  obtain ⟨_, _, cv52, iv52, yv52⟩ := hv
  refine ⟨⟨some _, rfl⟩, _, _, cv50, dv50, _, _, cv52, iv52, _, yv52, ?_⟩
  refine rX12_part rfl ?_
  replace h := q_be h
  obtain ⟨v53, hv, h⟩ := h
  replace hv := q_fR_e hv
  obtain ⟨_, cv53, dv53⟩ := hv
  replace h := q_be h
  obtain ⟨a54, ea54, h⟩ := h
  subst ea54
  replace h := q_be h
  obtain ⟨v55, hv, h⟩ := h
  replace hv := q_aI_e hv
  obtain ⟨_, _, cv55, iv55, yv55⟩ := hv
  refine ⟨⟨some _, rfl⟩, _, _, cv53, dv53, _, _, cv55, iv55, _, yv55, ?_⟩
  refine rX12_part rfl ?_
  refine And.intro (fun hc56 => ?_) (fun hc56 => ?_)
  · replace h := q_ifp (hc56) h
    exact ps_weak (he x7 (Option.some.inj h).symm) ⟨rfl, rfl, rfl, rfl, rfl, rfl, trivial⟩
  · replace h := q_ifn (hc56) h
    refine ⟨by decide, ?_⟩
    exact ps_weak (hh (x7 + (-1 : Int32)) (Option.some.inj h).symm) ⟨rfl, rfl, rfl, rfl, rfl, rfl, rfl, trivial⟩
noncomputable def jX12_cutBox_147 (g : ps_G) (x0 : Nat) (x1 : Int32) (x2 : Int32) (x3 : Int32) (x5 : Int32) (x6 : Int32) (x7 : Int32) : Option (Int32 × ps_G) := if ¬ x7 = x6 then (jX12_cutBox_196 g x0 x1 x2 x5 x6 x7) else (Option.bind (q_lp (fun s => bX12_cutBox_157 g x0 x1 x2 x3 x5 x6 s) (x7 + (-1 : Int32))) fun s59 => jX12_cutBox_196 g x0 x1 x2 x5 x6 s59)
theorem pjX12_cutBox_147 {d : Nat} {Q : ps_Rs → ps_G → Prop} {g : ps_G} {x0 : Nat} {x1 : Int32} {x2 : Int32} {x3 : Int32} {x5 : Int32} {x6 : Int32} {x7 : Int32} {r : Int32 × ps_G} (h : jX12_cutBox_147 g x0 x1 x2 x3 x5 x6 x7 = some r) (hk : Q (.inl (some (.int r.1))) r.2) : ps_At mX12_cutBox (d + 3) 147 [(0, .ref x0), (1, .int x1), (2, .int x2), (3, .int x3), (5, .int x5), (6, .int x6), (7, .int x7)] [] g Q := by
  unfold jX12_cutBox_147 at h
  refine sX12_cutBox_147 ?_
  refine And.intro (fun hc40 => ?_) (fun hc40 => ?_)
  · replace h := q_ifp (hc40) h
    exact ps_weak (pjX12_cutBox_196 h hk) ⟨rfl, rfl, rfl, rfl, rfl, rfl, trivial⟩
  · replace h := q_ifn (hc40) h
    refine ⟨by decide, ?_⟩
    replace h := q_be h
    obtain ⟨s59, hl, h⟩ := h
    refine ps_weak (q_lp_ok hl (fun s => ps_At mX12_cutBox (d + 3) 157 [(0, .ref x0), (1, .int x1), (2, .int x2), (3, .int x3), (5, .int x5), (6, .int x6), (7, .int s)] [] g Q) (fun r => ps_At mX12_cutBox (d + 3) 196 [(0, .ref x0), (1, .int x1), (2, .int x2), (5, .int x5), (6, .int x6), (7, .int r)] [] g Q) (fun s x hb hh he => pbX12_cutBox_157 hb hh he) ?_) ⟨rfl, rfl, rfl, rfl, rfl, rfl, rfl, trivial⟩
    refine (?_ : ps_At mX12_cutBox (d + 3) 196 [(0, .ref x0), (1, .int x1), (2, .int x2), (5, .int x5), (6, .int x6), (7, .int s59)] [] g Q)
    exact ps_weak (pjX12_cutBox_196 h hk) ⟨rfl, rfl, rfl, rfl, rfl, rfl, trivial⟩
noncomputable def fX12_cutBox (g : ps_G) (x0 : Nat) (x1 : Int32) : Option (Int32 × ps_G) := Option.bind (q_lp (fun s => bX12_cutBox_10 g x0 x1 s.1 s.2.1 s.2.2.1 s.2.2.2) ((-1 : Int32), (0 : Int32), (0 : Int32), (0 : Int32))) fun s16 => if 0 ≤ s16.1 then (Option.bind (q_ob 12 g x0) fun u18 => Option.bind (fX12_sortBox g x0 s16.1 s16.2) fun v19 => Option.bind (q_fR 12 62 v19 x0) fun v20 => Option.bind (v20) fun a21 => Option.bind (q_aI v19 a21 s16.1) fun v22 => Option.bind (q_fR 12 63 v19 x0) fun v23 => Option.bind (v23) fun a24 => Option.bind (q_aI v19 a24 s16.1) fun v25 => Option.bind (q_lp (fun s => bX12_cutBox_101 v19 x0 x1 s16.1 s16.2 v22 v25 s) (v25 / (2 : Int32))) fun s39 => jX12_cutBox_147 v19 x0 x1 s16.1 s16.2 v22 v25 s39) else (some ((0 : Int32), g))
theorem rX12_cutBox {d : Nat} {Q : ps_Rs → ps_G → Prop} {g : ps_G} {x0 : Nat} {x1 : Int32} {r : Int32 × ps_G} (h : fX12_cutBox g x0 x1 = some r) (hk : Q (.inl (some (.int r.1))) r.2) : ps_Ok mX12_cutBox (d + 3) [.ref x0, .int x1] g Q := by
  unfold fX12_cutBox at h
  refine sX12_cutBox_0 ?_
  refine ⟨by decide, by decide, by decide, by decide, ?_⟩
  replace h := q_be h
  obtain ⟨s16, hl, h⟩ := h
  refine ps_weak (q_lp_ok hl (fun s => ps_At mX12_cutBox (d + 3) 10 [(0, .ref x0), (1, .int x1), (2, .int s.1), (3, .int s.2.1), (4, .int s.2.2.1), (5, .int s.2.2.2)] [] g Q) (fun r => ps_At mX12_cutBox (d + 3) 67 [(0, .ref x0), (1, .int x1), (2, .int r.1), (3, .int r.2)] [] g Q) (fun s x hb hh he => pbX12_cutBox_10 hb hh he) ?_) ⟨rfl, rfl, rfl, rfl, rfl, rfl, trivial⟩
  refine (?_ : ps_At mX12_cutBox (d + 3) 67 [(0, .ref x0), (1, .int x1), (2, .int s16.1), (3, .int s16.2)] [] g Q)
  refine sX12_cutBox_67 ?_
  refine And.intro (fun hc17 => ?_) (fun hc17 => ?_)
  · replace h := q_ifp (hc17) h
    refine sX12_cutBox_73 ?_
    replace h := q_be h
    obtain ⟨u18, hv, h⟩ := h
    replace hv := q_ob_e hv
    obtain ⟨_, cu18⟩ := hv
    replace h := q_be h
    obtain ⟨v19, hv, h⟩ := h
    refine ⟨⟨some _, rfl⟩, ⟨_, cu18⟩, ?_⟩
    refine rX12_sortBox hv ?_
    replace h := q_be h
    obtain ⟨v20, hv, h⟩ := h
    replace hv := q_fR_e hv
    obtain ⟨_, cv20, dv20⟩ := hv
    replace h := q_be h
    obtain ⟨a21, ea21, h⟩ := h
    subst ea21
    replace h := q_be h
    obtain ⟨v22, hv, h⟩ := h
    replace hv := q_aI_e hv
    obtain ⟨_, _, cv22, iv22, yv22⟩ := hv
    replace h := q_be h
    obtain ⟨v23, hv, h⟩ := h
    replace hv := q_fR_e hv
    obtain ⟨_, cv23, dv23⟩ := hv
    replace h := q_be h
    obtain ⟨a24, ea24, h⟩ := h
    subst ea24
    replace h := q_be h
    obtain ⟨v25, hv, h⟩ := h
    replace hv := q_aI_e hv
    obtain ⟨_, _, cv25, iv25, yv25⟩ := hv
    refine ⟨⟨some _, rfl⟩, _, _, cv20, dv20, _, _, cv22, iv22, _, yv22, by decide, ⟨some _, rfl⟩, _, _, cv23, dv23, _, _, cv25, iv25, _, yv25, by decide, by decide, _, rfl, by decide, ?_⟩
    replace h := q_be h
    obtain ⟨s39, hl, h⟩ := h
    refine ps_weak (q_lp_ok hl (fun s => ps_At mX12_cutBox (d + 3) 101 [(0, .ref x0), (1, .int x1), (2, .int s16.1), (3, .int s16.2), (5, .int v22), (6, .int v25), (7, .int s)] [] v19 Q) (fun r => ps_At mX12_cutBox (d + 3) 147 [(0, .ref x0), (1, .int x1), (2, .int s16.1), (3, .int s16.2), (5, .int v22), (6, .int v25), (7, .int r)] [] v19 Q) (fun s x hb hh he => pbX12_cutBox_101 hb hh he) ?_) ⟨rfl, rfl, rfl, rfl, rfl, rfl, rfl, trivial⟩
    refine (?_ : ps_At mX12_cutBox (d + 3) 147 [(0, .ref x0), (1, .int x1), (2, .int s16.1), (3, .int s16.2), (5, .int v22), (6, .int v25), (7, .int s39)] [] v19 Q)
    exact ps_weak (pjX12_cutBox_147 h hk) ⟨rfl, rfl, rfl, rfl, rfl, rfl, rfl, trivial⟩
  · replace h := q_ifn (hc17) h
    cases h
    exact ⟨rfl, Or.inl rfl, hk⟩
noncomputable def bX12_meanOfBox_29 (g : ps_G) (x0 : Nat) (x1 : Int32) (x2 : Int32) (x3 : Int32) (x4 : Int32) (x5 : Int32) (x6 : Int32) : Option ((Int32 × Int32) ⊕ (Int32)) := Option.bind (q_fR 12 62 g x0) fun v9 => Option.bind (v9) fun a10 => Option.bind (q_aI g a10 x1) fun v11 => if (v11 + x2) ≤ x6 then (some (.inr x5)) else (Option.bind (q_fR 12 61 g x0) fun v14 => Option.bind (v14) fun a15 => Option.bind (q_aI g a15 x6) fun v16 => some (.inl (x5 + (fX12_part v16 x4), x6 + (1 : Int32))))
theorem pbX12_meanOfBox_29 {d : Nat} {Q : ps_Rs → ps_G → Prop} {g : ps_G} {x0 : Nat} {x1 : Int32} {x2 : Int32} {x3 : Int32} {x4 : Int32} {x5 : Int32} {x6 : Int32} {x : (Int32 × Int32) ⊕ (Int32)} (h : bX12_meanOfBox_29 g x0 x1 x2 x3 x4 x5 x6 = some x) (hh : ∀ s' : Int32 × Int32, x = .inl s' → ps_At mX12_meanOfBox (d + 1) 29 [(0, .ref x0), (1, .int x1), (2, .int x2), (3, .int x3), (4, .int x4), (5, .int s'.1), (6, .int s'.2)] [] g Q) (he : ∀ r' : Int32, x = .inr r' → ps_At mX12_meanOfBox (d + 1) 65 [(0, .ref x0), (1, .int x1), (2, .int x2), (3, .int x3), (4, .int x4), (5, .int r')] [] g Q) : ps_At mX12_meanOfBox (d + 1) 29 [(0, .ref x0), (1, .int x1), (2, .int x2), (3, .int x3), (4, .int x4), (5, .int x5), (6, .int x6)] [] g Q := by
  unfold bX12_meanOfBox_29 at h
  refine sX12_meanOfBox_29 ?_
  replace h := q_be h
  obtain ⟨v9, hv, h⟩ := h
  replace hv := q_fR_e hv
  obtain ⟨_, cv9, dv9⟩ := hv
  replace h := q_be h
  obtain ⟨a10, ea10, h⟩ := h
  subst ea10
  replace h := q_be h
  obtain ⟨v11, hv, h⟩ := h
  replace hv := q_aI_e hv
  obtain ⟨_, _, cv11, iv11, yv11⟩ := hv
  refine ⟨⟨some _, rfl⟩, _, _, cv9, dv9, _, _, cv11, iv11, _, yv11, ?_⟩
  refine And.intro (fun hc12 => ?_) (fun hc12 => ?_)
  · replace h := q_ifp (hc12) h
    exact ps_weak (he x5 (Option.some.inj h).symm) ⟨rfl, rfl, rfl, rfl, rfl, rfl, trivial⟩
  · replace h := q_ifn (hc12) h
    replace h := q_be h
    obtain ⟨v14, hv, h⟩ := h
    replace hv := q_fR_e hv
    obtain ⟨_, cv14, dv14⟩ := hv
    replace h := q_be h
    obtain ⟨a15, ea15, h⟩ := h
    subst ea15
    replace h := q_be h
    obtain ⟨v16, hv, h⟩ := h
    replace hv := q_aI_e hv
    obtain ⟨_, _, cv16, iv16, yv16⟩ := hv
    refine ⟨⟨some _, rfl⟩, _, _, cv14, dv14, _, _, cv16, iv16, _, yv16, ?_⟩
    refine rX12_part rfl ?_
    refine ⟨by decide, by decide, ?_⟩
    exact ps_weak (hh (x5 + (fX12_part v16 x4), x6 + (1 : Int32)) (Option.some.inj h).symm) ⟨rfl, rfl, rfl, rfl, rfl, rfl, rfl, trivial⟩
noncomputable def bX12_meanOfBox_12 (g : ps_G) (x0 : Nat) (x1 : Int32) (x2 : Int32) (x3 : Int32) (x4 : Int32) : Option ((Int32 × Int32) ⊕ (Int32)) := if (3 : Int32) ≤ x4 then (some (.inr x3)) else (Option.bind (q_fR 12 62 g x0) fun v6 => Option.bind (v6) fun a7 => Option.bind (q_aI g a7 x1) fun v8 => Option.bind (q_lp (fun s => bX12_meanOfBox_29 g x0 x1 x2 x3 x4 s.1 s.2) ((0 : Int32), v8)) fun s19 => Option.bind (q_div (s19 + (x2 / (2 : Int32))) x2) fun v20 => some (.inl (x3 ||| (q_shl v20 ((16 : Int32) - ((8 : Int32) * x4))), x4 + (1 : Int32))))
theorem pbX12_meanOfBox_12 {d : Nat} {Q : ps_Rs → ps_G → Prop} {g : ps_G} {x0 : Nat} {x1 : Int32} {x2 : Int32} {x3 : Int32} {x4 : Int32} {x : (Int32 × Int32) ⊕ (Int32)} (h : bX12_meanOfBox_12 g x0 x1 x2 x3 x4 = some x) (hh : ∀ s' : Int32 × Int32, x = .inl s' → ps_At mX12_meanOfBox (d + 1) 12 [(0, .ref x0), (1, .int x1), (2, .int x2), (3, .int s'.1), (4, .int s'.2)] [] g Q) (he : ∀ r' : Int32, x = .inr r' → ps_At mX12_meanOfBox (d + 1) 91 [(0, .ref x0), (1, .int x1), (3, .int r')] [] g Q) : ps_At mX12_meanOfBox (d + 1) 12 [(0, .ref x0), (1, .int x1), (2, .int x2), (3, .int x3), (4, .int x4)] [] g Q := by
  unfold bX12_meanOfBox_12 at h
  refine sX12_meanOfBox_12 ?_
  refine And.intro (fun hc4 => ?_) (fun hc4 => ?_)
  · replace h := q_ifp (hc4) h
    exact ps_weak (he x3 (Option.some.inj h).symm) ⟨rfl, rfl, rfl, trivial⟩
  · replace h := q_ifn (hc4) h
    replace h := q_be h
    obtain ⟨v6, hv, h⟩ := h
    replace hv := q_fR_e hv
    obtain ⟨_, cv6, dv6⟩ := hv
    replace h := q_be h
    obtain ⟨a7, ea7, h⟩ := h
    subst ea7
    replace h := q_be h
    obtain ⟨v8, hv, h⟩ := h
    replace hv := q_aI_e hv
    obtain ⟨_, _, cv8, iv8, yv8⟩ := hv
    refine ⟨by decide, ⟨some _, rfl⟩, _, _, cv6, dv6, _, _, cv8, iv8, _, yv8, by decide, ?_⟩
    replace h := q_be h
    obtain ⟨s19, hl, h⟩ := h
    refine ps_weak (q_lp_ok hl (fun s => ps_At mX12_meanOfBox (d + 1) 29 [(0, .ref x0), (1, .int x1), (2, .int x2), (3, .int x3), (4, .int x4), (5, .int s.1), (6, .int s.2)] [] g Q) (fun r => ps_At mX12_meanOfBox (d + 1) 65 [(0, .ref x0), (1, .int x1), (2, .int x2), (3, .int x3), (4, .int x4), (5, .int r)] [] g Q) (fun s x hb hh he => pbX12_meanOfBox_29 hb hh he) ?_) ⟨rfl, rfl, rfl, rfl, rfl, rfl, rfl, trivial⟩
    refine (?_ : ps_At mX12_meanOfBox (d + 1) 65 [(0, .ref x0), (1, .int x1), (2, .int x2), (3, .int x3), (4, .int x4), (5, .int s19)] [] g Q)
    refine sX12_meanOfBox_65 ?_
    replace h := q_be h
    obtain ⟨v20, hv, h⟩ := h
    replace hv := q_div_e hv
    obtain ⟨zv20, yv20⟩ := hv
    refine ⟨by decide, _, rfl, zv20, _, yv20, by decide, by decide, ?_⟩
    exact ps_weak (hh (x3 ||| (q_shl v20 ((16 : Int32) - ((8 : Int32) * x4))), x4 + (1 : Int32)) (Option.some.inj h).symm) ⟨rfl, rfl, rfl, rfl, rfl, trivial⟩
noncomputable def fX12_meanOfBox (g : ps_G) (x0 : Nat) (x1 : Int32) : Option (ps_G) := Option.bind (q_fR 12 63 g x0) fun v1 => Option.bind (v1) fun a2 => Option.bind (q_aI g a2 x1) fun v3 => Option.bind (q_lp (fun s => bX12_meanOfBox_12 g x0 x1 v3 s.1 s.2) ((0 : Int32), (0 : Int32))) fun s23 => Option.bind (q_fR 12 64 g x0) fun v24 => Option.bind (v24) fun a25 => Option.bind (q_wI g a25 x1 s23) fun g26 => some g26
theorem rX12_meanOfBox {d : Nat} {Q : ps_Rs → ps_G → Prop} {g : ps_G} {x0 : Nat} {x1 : Int32} {r : ps_G} (h : fX12_meanOfBox g x0 x1 = some r) (hk : Q (.inl none) r) : ps_Ok mX12_meanOfBox (d + 1) [.ref x0, .int x1] g Q := by
  unfold fX12_meanOfBox at h
  refine sX12_meanOfBox_0 ?_
  replace h := q_be h
  obtain ⟨v1, hv, h⟩ := h
  replace hv := q_fR_e hv
  obtain ⟨_, cv1, dv1⟩ := hv
  replace h := q_be h
  obtain ⟨a2, ea2, h⟩ := h
  subst ea2
  replace h := q_be h
  obtain ⟨v3, hv, h⟩ := h
  replace hv := q_aI_e hv
  obtain ⟨_, _, cv3, iv3, yv3⟩ := hv
  refine ⟨⟨some _, rfl⟩, _, _, cv1, dv1, _, _, cv3, iv3, _, yv3, by decide, by decide, by decide, ?_⟩
  replace h := q_be h
  obtain ⟨s23, hl, h⟩ := h
  refine ps_weak (q_lp_ok hl (fun s => ps_At mX12_meanOfBox (d + 1) 12 [(0, .ref x0), (1, .int x1), (2, .int v3), (3, .int s.1), (4, .int s.2)] [] g Q) (fun r => ps_At mX12_meanOfBox (d + 1) 91 [(0, .ref x0), (1, .int x1), (3, .int r)] [] g Q) (fun s x hb hh he => pbX12_meanOfBox_12 hb hh he) ?_) ⟨rfl, rfl, rfl, rfl, rfl, trivial⟩
  refine (?_ : ps_At mX12_meanOfBox (d + 1) 91 [(0, .ref x0), (1, .int x1), (3, .int s23)] [] g Q)
  refine sX12_meanOfBox_91 ?_
  replace h := q_be h
  obtain ⟨v24, hv, h⟩ := h
  replace hv := q_fR_e hv
  obtain ⟨_, cv24, dv24⟩ := hv
  replace h := q_be h
  obtain ⟨a25, ea25, h⟩ := h
  subst ea25
  replace h := q_be h
  obtain ⟨g26, hv, h⟩ := h
  replace hv := q_wI_e hv
  obtain ⟨_, _, cg26, pg26, ig26, yg26⟩ := hv
  cases h
  exact ⟨⟨some _, rfl⟩, _, _, cv24, dv24, _, _, cg26, pg26, ig26, _, yg26, rfl, rfl, hk⟩
noncomputable def jX12_give_43 (g : ps_G) : Option (ps_G) := some g
theorem pjX12_give_43 {d : Nat} {Q : ps_Rs → ps_G → Prop} {g : ps_G}  {r : ps_G} (h : jX12_give_43 g = some r) (hk : Q (.inl none) r) : ps_At mX12_give (d + 2) 43 [] [] g Q := by
  unfold jX12_give_43 at h
  refine sX12_give_43 ?_
  cases h
  exact ⟨rfl, rfl, hk⟩
noncomputable def fX12_give (g : ps_G) (x0 : Nat) (x1 : Int32) (x2 : Int32) (x3 : Int32) (x4 : Int32) (x5 : Int32) : Option (ps_G) := Option.bind (q_ob 12 g x0) fun u1 => Option.bind (fX12_isPlace g x0 x2 x3) fun v2 => if v2 = 0 then (jX12_give_43 g) else (Option.bind (q_ob 12 g x0) fun u5 => Option.bind (fX12_own g x0 x1 x2 x3) fun v6 => if (fX12_alpha v6) ≤ 0 then (jX12_give_43 g) else (Option.bind (q_fR 12 65 g x0) fun v9 => Option.bind (v9) fun a10 => Option.bind (q_ob 12 g x0) fun u11 => Option.bind (fX12_at g x0 x2 x3) fun v12 => Option.bind (q_aI g a10 (((3 : Int32) * v12) + x4)) fun v13 => Option.bind (q_wI g a10 (((3 : Int32) * v12) + x4) (v13 + x5)) fun g14 => jX12_give_43 g14))
theorem rX12_give {d : Nat} {Q : ps_Rs → ps_G → Prop} {g : ps_G} {x0 : Nat} {x1 : Int32} {x2 : Int32} {x3 : Int32} {x4 : Int32} {x5 : Int32} {r : ps_G} (h : fX12_give g x0 x1 x2 x3 x4 x5 = some r) (hk : Q (.inl none) r) : ps_Ok mX12_give (d + 2) [.ref x0, .int x1, .int x2, .int x3, .int x4, .int x5] g Q := by
  unfold fX12_give at h
  refine sX12_give_0 ?_
  replace h := q_be h
  obtain ⟨u1, hv, h⟩ := h
  replace hv := q_ob_e hv
  obtain ⟨_, cu1⟩ := hv
  replace h := q_be h
  obtain ⟨v2, hv, h⟩ := h
  refine ⟨⟨some _, rfl⟩, ⟨_, cu1⟩, ?_⟩
  refine rX12_isPlace hv ?_
  refine And.intro (fun hc3 => ?_) (fun hc3 => ?_)
  · replace h := q_ifp (hc3) h
    exact ps_weak (pjX12_give_43 h hk) trivial
  · replace h := q_ifn (hc3) h
    replace h := q_be h
    obtain ⟨u5, hv, h⟩ := h
    replace hv := q_ob_e hv
    obtain ⟨_, cu5⟩ := hv
    replace h := q_be h
    obtain ⟨v6, hv, h⟩ := h
    refine ⟨⟨some _, rfl⟩, ⟨_, cu5⟩, ?_⟩
    refine rX12_own hv ?_
    refine rX12_alpha rfl ?_
    refine And.intro (fun hc7 => ?_) (fun hc7 => ?_)
    · replace h := q_ifp (hc7) h
      exact ps_weak (pjX12_give_43 h hk) trivial
    · replace h := q_ifn (hc7) h
      replace h := q_be h
      obtain ⟨v9, hv, h⟩ := h
      replace hv := q_fR_e hv
      obtain ⟨_, cv9, dv9⟩ := hv
      replace h := q_be h
      obtain ⟨a10, ea10, h⟩ := h
      subst ea10
      replace h := q_be h
      obtain ⟨u11, hv, h⟩ := h
      replace hv := q_ob_e hv
      obtain ⟨_, cu11⟩ := hv
      replace h := q_be h
      obtain ⟨v12, hv, h⟩ := h
      refine ⟨⟨some _, rfl⟩, _, _, cv9, dv9, ⟨some _, rfl⟩, ⟨_, cu11⟩, ?_⟩
      refine rX12_at hv ?_
      replace h := q_be h
      obtain ⟨v13, hv, h⟩ := h
      replace hv := q_aI_e hv
      obtain ⟨_, _, cv13, iv13, yv13⟩ := hv
      replace h := q_be h
      obtain ⟨g14, hv, h⟩ := h
      replace hv := q_wI_e hv
      obtain ⟨_, _, cg14, pg14, ig14, yg14⟩ := hv
      refine ⟨rfl, rfl, _, _, cv13, iv13, _, yv13, _, _, cg14, pg14, ig14, _, yg14, ?_⟩
      exact ps_weak (pjX12_give_43 h hk) trivial
noncomputable def fX12_spread (g : ps_G) (x0 : Nat) (x1 : Int32) (x2 : Int32) (x3 : Int32) (x4 : Int32) : Option (ps_G) := Option.bind (q_fI 12 13 g x0) fun v1 => Option.bind (q_mod x2 v1) fun v2 => Option.bind (q_fI 12 13 g x0) fun v3 => Option.bind (q_div x2 v3) fun v4 => Option.bind (q_ob 12 g x0) fun u5 => Option.bind (fX12_give g x0 x1 (v2 + (1 : Int32)) v4 x3 (((7 : Int32) * x4) / (16 : Int32))) fun v6 => Option.bind (q_ob 12 v6 x0) fun u7 => Option.bind (fX12_give v6 x0 x1 (v2 - (1 : Int32)) (v4 + (1 : Int32)) x3 (((3 : Int32) * x4) / (16 : Int32))) fun v8 => Option.bind (q_ob 12 v8 x0) fun u9 => Option.bind (fX12_give v8 x0 x1 v2 (v4 + (1 : Int32)) x3 (((5 : Int32) * x4) / (16 : Int32))) fun v10 => Option.bind (q_ob 12 v10 x0) fun u11 => Option.bind (fX12_give v10 x0 x1 (v2 + (1 : Int32)) (v4 + (1 : Int32)) x3 (x4 / (16 : Int32))) fun v12 => some v12
theorem rX12_spread {d : Nat} {Q : ps_Rs → ps_G → Prop} {g : ps_G} {x0 : Nat} {x1 : Int32} {x2 : Int32} {x3 : Int32} {x4 : Int32} {r : ps_G} (h : fX12_spread g x0 x1 x2 x3 x4 = some r) (hk : Q (.inl none) r) : ps_Ok mX12_spread (d + 3) [.ref x0, .int x1, .int x2, .int x3, .int x4] g Q := by
  unfold fX12_spread at h
  refine sX12_spread_0 ?_
  replace h := q_be h
  obtain ⟨v1, hv, h⟩ := h
  replace hv := q_fI_e hv
  obtain ⟨_, cv1, dv1⟩ := hv
  replace h := q_be h
  obtain ⟨v2, hv, h⟩ := h
  replace hv := q_mod_e hv
  obtain ⟨zv2, yv2⟩ := hv
  replace h := q_be h
  obtain ⟨v3, hv, h⟩ := h
  replace hv := q_fI_e hv
  obtain ⟨_, cv3, dv3⟩ := hv
  replace h := q_be h
  obtain ⟨v4, hv, h⟩ := h
  replace hv := q_div_e hv
  obtain ⟨zv4, yv4⟩ := hv
  replace h := q_be h
  obtain ⟨u5, hv, h⟩ := h
  replace hv := q_ob_e hv
  obtain ⟨_, cu5⟩ := hv
  replace h := q_be h
  obtain ⟨v6, hv, h⟩ := h
  refine ⟨⟨some _, rfl⟩, _, _, cv1, dv1, zv2, _, yv2, by decide, ⟨some _, rfl⟩, _, _, cv3, dv3, zv4, _, yv4, by decide, ⟨some _, rfl⟩, by decide, _, rfl, ⟨_, cu5⟩, ?_⟩
  refine rX12_give hv ?_
  replace h := q_be h
  obtain ⟨u7, hv, h⟩ := h
  replace hv := q_ob_e hv
  obtain ⟨_, cu7⟩ := hv
  replace h := q_be h
  obtain ⟨v8, hv, h⟩ := h
  refine ⟨⟨some _, rfl⟩, by decide, _, rfl, ⟨_, cu7⟩, ?_⟩
  refine rX12_give hv ?_
  replace h := q_be h
  obtain ⟨u9, hv, h⟩ := h
  replace hv := q_ob_e hv
  obtain ⟨_, cu9⟩ := hv
  replace h := q_be h
  obtain ⟨v10, hv, h⟩ := h
  refine ⟨⟨some _, rfl⟩, by decide, _, rfl, ⟨_, cu9⟩, ?_⟩
  refine rX12_give hv ?_
  replace h := q_be h
  obtain ⟨u11, hv, h⟩ := h
  replace hv := q_ob_e hv
  obtain ⟨_, cu11⟩ := hv
  replace h := q_be h
  obtain ⟨v12, hv, h⟩ := h
  refine ⟨⟨some _, rfl⟩, by decide, _, rfl, ⟨_, cu11⟩, ?_⟩
  refine rX12_give hv ?_
  cases h
  exact ⟨rfl, rfl, hk⟩
noncomputable def bX12_fewAt_70 (g : ps_G) (x0 : Nat) (x1 : Int32) (x2 : Int32) (x4 : Int32) (x5 : Int32) (x6 : Int32) (x7 : Int32) (x8 : Int32) (x9 : Int32) (x10 : Int32) (x11 : Int32) : Option ((Int32 × Int32 × Int32) ⊕ (Int32)) := if x4 ≤ x11 then (some (.inr x9)) else (Option.bind (q_fR 12 64 g x0) fun v12 => Option.bind (v12) fun a13 => Option.bind (q_aI g a13 x11) fun v14 => Option.bind (q_fR 12 64 g x0) fun v15 => Option.bind (v15) fun a16 => Option.bind (q_aI g a16 x11) fun v17 => Option.bind (q_fR 12 64 g x0) fun v18 => Option.bind (v18) fun a19 => Option.bind (q_aI g a19 x11) fun v20 => some (.inl ((if (x10 < 0) ∨ (((((x6 - (fX12_part v14 (0 : Int32))) * (x6 - (fX12_part v14 (0 : Int32)))) + ((x7 - (fX12_part v17 (1 : Int32))) * (x7 - (fX12_part v17 (1 : Int32))))) + ((x8 - (fX12_part v20 (2 : Int32))) * (x8 - (fX12_part v20 (2 : Int32))))) < x10) then x11 else x9), (if (x10 < 0) ∨ (((((x6 - (fX12_part v14 (0 : Int32))) * (x6 - (fX12_part v14 (0 : Int32)))) + ((x7 - (fX12_part v17 (1 : Int32))) * (x7 - (fX12_part v17 (1 : Int32))))) + ((x8 - (fX12_part v20 (2 : Int32))) * (x8 - (fX12_part v20 (2 : Int32))))) < x10) then (((x6 - (fX12_part v14 (0 : Int32))) * (x6 - (fX12_part v14 (0 : Int32)))) + ((x7 - (fX12_part v17 (1 : Int32))) * (x7 - (fX12_part v17 (1 : Int32))))) + ((x8 - (fX12_part v20 (2 : Int32))) * (x8 - (fX12_part v20 (2 : Int32)))) else x10), x11 + (1 : Int32))))
theorem pbX12_fewAt_70 {d : Nat} {Q : ps_Rs → ps_G → Prop} {g : ps_G} {x0 : Nat} {x1 : Int32} {x2 : Int32} {x4 : Int32} {x5 : Int32} {x6 : Int32} {x7 : Int32} {x8 : Int32} {x9 : Int32} {x10 : Int32} {x11 : Int32} {x : (Int32 × Int32 × Int32) ⊕ (Int32)} (h : bX12_fewAt_70 g x0 x1 x2 x4 x5 x6 x7 x8 x9 x10 x11 = some x) (hh : ∀ s' : Int32 × Int32 × Int32, x = .inl s' → ps_At mX12_fewAt (d + 4) 70 [(0, .ref x0), (1, .int x1), (2, .int x2), (4, .int x4), (5, .int x5), (6, .int x6), (7, .int x7), (8, .int x8), (9, .int s'.1), (10, .int s'.2.1), (11, .int s'.2.2)] [] g Q) (he : ∀ r' : Int32, x = .inr r' → ps_At mX12_fewAt (d + 4) 173 [(0, .ref x0), (1, .int x1), (2, .int x2), (5, .int x5), (6, .int x6), (7, .int x7), (8, .int x8), (9, .int r')] [] g Q) : ps_At mX12_fewAt (d + 4) 70 [(0, .ref x0), (1, .int x1), (2, .int x2), (4, .int x4), (5, .int x5), (6, .int x6), (7, .int x7), (8, .int x8), (9, .int x9), (10, .int x10), (11, .int x11)] [] g Q := by
  unfold bX12_fewAt_70 at h
  refine sX12_fewAt_70 ?_
  refine And.intro (fun hc10 => ?_) (fun hc10 => ?_)
  · replace h := q_ifp (hc10) h
    exact ps_weak (he x9 (Option.some.inj h).symm) ⟨rfl, rfl, rfl, rfl, rfl, rfl, rfl, rfl, trivial⟩
  · replace h := q_ifn (hc10) h
    replace h := q_be h
    obtain ⟨v12, hv, h⟩ := h
    replace hv := q_fR_e hv
    obtain ⟨_, cv12, dv12⟩ := hv
    replace h := q_be h
    obtain ⟨a13, ea13, h⟩ := h
    subst ea13
    replace h := q_be h
    obtain ⟨v14, hv, h⟩ := h
    replace hv := q_aI_e hv
    obtain ⟨_, _, cv14, iv14, yv14⟩ := hv
    refine ⟨⟨some _, rfl⟩, _, _, cv12, dv12, _, _, cv14, iv14, _, yv14, ?_⟩
    refine rX12_part rfl ?_
    replace h := q_be h
    obtain ⟨v15, hv, h⟩ := h
    replace hv := q_fR_e hv
    obtain ⟨_, cv15, dv15⟩ := hv
    replace h := q_be h
    obtain ⟨a16, ea16, h⟩ := h
    subst ea16
    replace h := q_be h
    obtain ⟨v17, hv, h⟩ := h
    replace hv := q_aI_e hv
    obtain ⟨_, _, cv17, iv17, yv17⟩ := hv
    refine ⟨by decide, ⟨some _, rfl⟩, _, _, cv15, dv15, _, _, cv17, iv17, _, yv17, ?_⟩
    refine rX12_part rfl ?_
    replace h := q_be h
    obtain ⟨v18, hv, h⟩ := h
    replace hv := q_fR_e hv
    obtain ⟨_, cv18, dv18⟩ := hv
    replace h := q_be h
    obtain ⟨a19, ea19, h⟩ := h
    subst ea19
    replace h := q_be h
    obtain ⟨v20, hv, h⟩ := h
    replace hv := q_aI_e hv
    obtain ⟨_, _, cv20, iv20, yv20⟩ := hv
    refine ⟨by decide, ⟨some _, rfl⟩, _, _, cv18, dv18, _, _, cv20, iv20, _, yv20, ?_⟩
    refine rX12_part rfl ?_
    have kJ25 : ∀ w23 : Int32, w23 = (if (x10 < 0) ∨ (((((x6 - (fX12_part v14 (0 : Int32))) * (x6 - (fX12_part v14 (0 : Int32)))) + ((x7 - (fX12_part v17 (1 : Int32))) * (x7 - (fX12_part v17 (1 : Int32))))) + ((x8 - (fX12_part v20 (2 : Int32))) * (x8 - (fX12_part v20 (2 : Int32))))) < x10) then x11 else x9) → ∀ w24 : Int32, w24 = (if (x10 < 0) ∨ (((((x6 - (fX12_part v14 (0 : Int32))) * (x6 - (fX12_part v14 (0 : Int32)))) + ((x7 - (fX12_part v17 (1 : Int32))) * (x7 - (fX12_part v17 (1 : Int32))))) + ((x8 - (fX12_part v20 (2 : Int32))) * (x8 - (fX12_part v20 (2 : Int32))))) < x10) then (((x6 - (fX12_part v14 (0 : Int32))) * (x6 - (fX12_part v14 (0 : Int32)))) + ((x7 - (fX12_part v17 (1 : Int32))) * (x7 - (fX12_part v17 (1 : Int32))))) + ((x8 - (fX12_part v20 (2 : Int32))) * (x8 - (fX12_part v20 (2 : Int32)))) else x10) → ps_At mX12_fewAt (d + 4) 167 [(0, .ref x0), (1, .int x1), (2, .int x2), (4, .int x4), (5, .int x5), (6, .int x6), (7, .int x7), (8, .int x8), (9, .int w23), (10, .int w24), (11, .int x11)] [] g Q := by
      rintro _ rfl _ rfl
      refine sX12_fewAt_167 ?_
      refine ⟨by decide, ?_⟩
      exact ps_weak (hh ((if (x10 < 0) ∨ (((((x6 - (fX12_part v14 (0 : Int32))) * (x6 - (fX12_part v14 (0 : Int32)))) + ((x7 - (fX12_part v17 (1 : Int32))) * (x7 - (fX12_part v17 (1 : Int32))))) + ((x8 - (fX12_part v20 (2 : Int32))) * (x8 - (fX12_part v20 (2 : Int32))))) < x10) then x11 else x9), (if (x10 < 0) ∨ (((((x6 - (fX12_part v14 (0 : Int32))) * (x6 - (fX12_part v14 (0 : Int32)))) + ((x7 - (fX12_part v17 (1 : Int32))) * (x7 - (fX12_part v17 (1 : Int32))))) + ((x8 - (fX12_part v20 (2 : Int32))) * (x8 - (fX12_part v20 (2 : Int32))))) < x10) then (((x6 - (fX12_part v14 (0 : Int32))) * (x6 - (fX12_part v14 (0 : Int32)))) + ((x7 - (fX12_part v17 (1 : Int32))) * (x7 - (fX12_part v17 (1 : Int32))))) + ((x8 - (fX12_part v20 (2 : Int32))) * (x8 - (fX12_part v20 (2 : Int32)))) else x10), x11 + (1 : Int32)) (Option.some.inj h).symm) ⟨rfl, rfl, rfl, rfl, rfl, rfl, rfl, rfl, rfl, rfl, rfl, trivial⟩
    refine ⟨by decide, by decide, ?_⟩
    refine And.intro (fun hc21 => ?_) (fun hc21 => ?_)
    · refine sX12_fewAt_159 ?_
      refine ⟨by decide, by decide, ?_⟩
      exact ps_weak (kJ25 _ (if_pos (Or.inl hc21)).symm _ (if_pos (Or.inl hc21)).symm) ⟨rfl, rfl, rfl, rfl, rfl, rfl, rfl, rfl, rfl, rfl, rfl, trivial⟩
    · refine And.intro (fun hc22 => ?_) (fun hc22 => ?_)
      · refine sX12_fewAt_159 ?_
        refine ⟨by decide, by decide, ?_⟩
        exact ps_weak (kJ25 _ (if_pos (Or.inr (hc22))).symm _ (if_pos (Or.inr (hc22))).symm) ⟨rfl, rfl, rfl, rfl, rfl, rfl, rfl, rfl, rfl, rfl, rfl, trivial⟩
      · exact ps_weak (kJ25 _ (if_neg (not_or.mpr ⟨hc21, hc22⟩)).symm _ (if_neg (not_or.mpr ⟨hc21, hc22⟩)).symm) ⟨rfl, rfl, rfl, rfl, rfl, rfl, rfl, rfl, rfl, rfl, rfl, trivial⟩
noncomputable def jX12_fewAt_235 (g : ps_G) (x11 : Int32) : Option (Int32 × ps_G) := some (x11, g)
theorem pjX12_fewAt_235 {d : Nat} {Q : ps_Rs → ps_G → Prop} {g : ps_G} {x11 : Int32} {r : Int32 × ps_G} (h : jX12_fewAt_235 g x11 = some r) (hk : Q (.inl (some (.int r.1))) r.2) : ps_At mX12_fewAt (d + 4) 235 [(11, .int x11)] [] g Q := by
  unfold jX12_fewAt_235 at h
  refine sX12_fewAt_235 ?_
  cases h
  exact ⟨rfl, hk⟩
noncomputable def fX12_fewAt (g : ps_G) (x0 : Nat) (x1 : Int32) (x2 : Int32) (x3 : Int32) (x4 : Int32) (x5 : Int32) : Option (Int32 × ps_G) := Option.bind (q_fR 12 65 g x0) fun v1 => Option.bind (v1) fun a2 => Option.bind (q_aI g a2 ((3 : Int32) * x2)) fun v3 => Option.bind (q_fR 12 65 g x0) fun v4 => Option.bind (v4) fun a5 => Option.bind (q_aI g a5 (((3 : Int32) * x2) + (1 : Int32))) fun v6 => Option.bind (q_fR 12 65 g x0) fun v7 => Option.bind (v7) fun a8 => Option.bind (q_aI g a8 (((3 : Int32) * x2) + (2 : Int32))) fun v9 => Option.bind (q_lp (fun s => bX12_fewAt_70 g x0 x1 x2 x4 x5 (fX12_clip ((fX12_part x3 (0 : Int32)) + v3)) (fX12_clip ((fX12_part x3 (1 : Int32)) + v6)) (fX12_clip ((fX12_part x3 (2 : Int32)) + v9)) s.1 s.2.1 s.2.2) ((0 : Int32), (-1 : Int32), (0 : Int32))) fun s28 => Option.bind (q_fR 12 64 g x0) fun v29 => Option.bind (v29) fun a30 => Option.bind (q_aI g a30 s28) fun v31 => if x5 = 0 then (jX12_fewAt_235 g v31) else (Option.bind (q_ob 12 g x0) fun u34 => Option.bind (fX12_spread g x0 x1 x2 (0 : Int32) ((fX12_clip ((fX12_part x3 (0 : Int32)) + v3)) - (fX12_part v31 (0 : Int32)))) fun v35 => Option.bind (q_ob 12 v35 x0) fun u36 => Option.bind (fX12_spread v35 x0 x1 x2 (1 : Int32) ((fX12_clip ((fX12_part x3 (1 : Int32)) + v6)) - (fX12_part v31 (1 : Int32)))) fun v37 => Option.bind (q_ob 12 v37 x0) fun u38 => Option.bind (fX12_spread v37 x0 x1 x2 (2 : Int32) ((fX12_clip ((fX12_part x3 (2 : Int32)) + v9)) - (fX12_part v31 (2 : Int32)))) fun v39 => jX12_fewAt_235 v39 v31)
theorem rX12_fewAt {d : Nat} {Q : ps_Rs → ps_G → Prop} {g : ps_G} {x0 : Nat} {x1 : Int32} {x2 : Int32} {x3 : Int32} {x4 : Int32} {x5 : Int32} {r : Int32 × ps_G} (h : fX12_fewAt g x0 x1 x2 x3 x4 x5 = some r) (hk : Q (.inl (some (.int r.1))) r.2) : ps_Ok mX12_fewAt (d + 4) [.ref x0, .int x1, .int x2, .int x3, .int x4, .int x5] g Q := by
  unfold fX12_fewAt at h
  refine sX12_fewAt_0 ?_
  refine rX12_part rfl ?_
  replace h := q_be h
  obtain ⟨v1, hv, h⟩ := h
  replace hv := q_fR_e hv
  obtain ⟨_, cv1, dv1⟩ := hv
  replace h := q_be h
  obtain ⟨a2, ea2, h⟩ := h
  subst ea2
  replace h := q_be h
  obtain ⟨v3, hv, h⟩ := h
  replace hv := q_aI_e hv
  obtain ⟨_, _, cv3, iv3, yv3⟩ := hv
  refine ⟨⟨some _, rfl⟩, _, _, cv1, dv1, _, _, cv3, iv3, _, yv3, ?_⟩
  refine rX12_clip rfl ?_
  refine ⟨by decide, ?_⟩
  refine rX12_part rfl ?_
  replace h := q_be h
  obtain ⟨v4, hv, h⟩ := h
  replace hv := q_fR_e hv
  obtain ⟨_, cv4, dv4⟩ := hv
  replace h := q_be h
  obtain ⟨a5, ea5, h⟩ := h
  subst ea5
  replace h := q_be h
  obtain ⟨v6, hv, h⟩ := h
  replace hv := q_aI_e hv
  obtain ⟨_, _, cv6, iv6, yv6⟩ := hv
  refine ⟨⟨some _, rfl⟩, _, _, cv4, dv4, _, _, cv6, iv6, _, yv6, ?_⟩
  refine rX12_clip rfl ?_
  refine ⟨by decide, ?_⟩
  refine rX12_part rfl ?_
  replace h := q_be h
  obtain ⟨v7, hv, h⟩ := h
  replace hv := q_fR_e hv
  obtain ⟨_, cv7, dv7⟩ := hv
  replace h := q_be h
  obtain ⟨a8, ea8, h⟩ := h
  subst ea8
  replace h := q_be h
  obtain ⟨v9, hv, h⟩ := h
  replace hv := q_aI_e hv
  obtain ⟨_, _, cv9, iv9, yv9⟩ := hv
  refine ⟨⟨some _, rfl⟩, _, _, cv7, dv7, _, _, cv9, iv9, _, yv9, ?_⟩
  refine rX12_clip rfl ?_
  refine ⟨by decide, by decide, by decide, by decide, ?_⟩
  replace h := q_be h
  obtain ⟨s28, hl, h⟩ := h
  refine ps_weak (q_lp_ok hl (fun s => ps_At mX12_fewAt (d + 4) 70 [(0, .ref x0), (1, .int x1), (2, .int x2), (4, .int x4), (5, .int x5), (6, .int (fX12_clip ((fX12_part x3 (0 : Int32)) + v3))), (7, .int (fX12_clip ((fX12_part x3 (1 : Int32)) + v6))), (8, .int (fX12_clip ((fX12_part x3 (2 : Int32)) + v9))), (9, .int s.1), (10, .int s.2.1), (11, .int s.2.2)] [] g Q) (fun r => ps_At mX12_fewAt (d + 4) 173 [(0, .ref x0), (1, .int x1), (2, .int x2), (5, .int x5), (6, .int (fX12_clip ((fX12_part x3 (0 : Int32)) + v3))), (7, .int (fX12_clip ((fX12_part x3 (1 : Int32)) + v6))), (8, .int (fX12_clip ((fX12_part x3 (2 : Int32)) + v9))), (9, .int r)] [] g Q) (fun s x hb hh he => pbX12_fewAt_70 hb hh he) ?_) ⟨rfl, rfl, rfl, rfl, rfl, rfl, rfl, rfl, rfl, rfl, rfl, trivial⟩
  refine (?_ : ps_At mX12_fewAt (d + 4) 173 [(0, .ref x0), (1, .int x1), (2, .int x2), (5, .int x5), (6, .int (fX12_clip ((fX12_part x3 (0 : Int32)) + v3))), (7, .int (fX12_clip ((fX12_part x3 (1 : Int32)) + v6))), (8, .int (fX12_clip ((fX12_part x3 (2 : Int32)) + v9))), (9, .int s28)] [] g Q)
  refine sX12_fewAt_173 ?_
  replace h := q_be h
  obtain ⟨v29, hv, h⟩ := h
  replace hv := q_fR_e hv
  obtain ⟨_, cv29, dv29⟩ := hv
  replace h := q_be h
  obtain ⟨a30, ea30, h⟩ := h
  subst ea30
  replace h := q_be h
  obtain ⟨v31, hv, h⟩ := h
  replace hv := q_aI_e hv
  obtain ⟨_, _, cv31, iv31, yv31⟩ := hv
  refine ⟨⟨some _, rfl⟩, _, _, cv29, dv29, _, _, cv31, iv31, _, yv31, by decide, ?_⟩
  refine And.intro (fun hc32 => ?_) (fun hc32 => ?_)
  · replace h := q_ifp (hc32) h
    exact ps_weak (pjX12_fewAt_235 h hk) ⟨rfl, trivial⟩
  · replace h := q_ifn (hc32) h
    refine ⟨⟨some _, rfl⟩, ?_⟩
    refine rX12_part rfl ?_
    replace h := q_be h
    obtain ⟨u34, hv, h⟩ := h
    replace hv := q_ob_e hv
    obtain ⟨_, cu34⟩ := hv
    replace h := q_be h
    obtain ⟨v35, hv, h⟩ := h
    refine ⟨⟨_, cu34⟩, ?_⟩
    refine rX12_spread hv ?_
    refine ⟨⟨some _, rfl⟩, ?_⟩
    refine rX12_part rfl ?_
    replace h := q_be h
    obtain ⟨u36, hv, h⟩ := h
    replace hv := q_ob_e hv
    obtain ⟨_, cu36⟩ := hv
    replace h := q_be h
    obtain ⟨v37, hv, h⟩ := h
    refine ⟨⟨_, cu36⟩, ?_⟩
    refine rX12_spread hv ?_
    refine ⟨⟨some _, rfl⟩, ?_⟩
    refine rX12_part rfl ?_
    replace h := q_be h
    obtain ⟨u38, hv, h⟩ := h
    replace hv := q_ob_e hv
    obtain ⟨_, cu38⟩ := hv
    replace h := q_be h
    obtain ⟨v39, hv, h⟩ := h
    refine ⟨⟨_, cu38⟩, ?_⟩
    refine rX12_spread hv ?_
    exact ps_weak (pjX12_fewAt_235 h hk) ⟨rfl, trivial⟩
noncomputable def jX12_few_84_31 (g : ps_G) (x0 : Nat) (x1 : Int32) (x2 : Int32) (x3 : Int32) (x4 : Int32) (x5 : Int32) : Option ((Int32 × Int32 × ps_G) ⊕ (Int32 × ps_G)) := some (.inl (x4, x5 + (1 : Int32), g))
theorem pjX12_few_84_31 {d : Nat} {Q : ps_Rs → ps_G → Prop} {g : ps_G} {x0 : Nat} {x1 : Int32} {x2 : Int32} {x3 : Int32} {x4 : Int32} {x5 : Int32} {x : (Int32 × Int32 × ps_G) ⊕ (Int32 × ps_G)} (h : jX12_few_84_31 g x0 x1 x2 x3 x4 x5 = some x) (hh : ∀ s' : Int32 × Int32 × ps_G, x = .inl s' → ps_At mX12_few (d + 5) 31 [(0, .ref x0), (1, .int x1), (2, .int x2), (3, .int x3), (4, .int s'.1), (5, .int s'.2.1)] [] s'.2.2 Q) (he : ∀ r' : Int32 × ps_G, x = .inr r' → ps_At mX12_few (d + 5) 90 [(0, .ref x0), (1, .int x1), (2, .int x2), (3, .int x3), (4, .int r'.1)] [] r'.2 Q) : ps_At mX12_few (d + 5) 84 [(0, .ref x0), (1, .int x1), (2, .int x2), (3, .int x3), (4, .int x4), (5, .int x5)] [] g Q := by
  unfold jX12_few_84_31 at h
  refine sX12_few_84 ?_
  refine ⟨by decide, ?_⟩
  exact ps_weak (hh (x4, x5 + (1 : Int32), g) (Option.some.inj h).symm) ⟨rfl, rfl, rfl, rfl, rfl, rfl, trivial⟩
noncomputable def bX12_few_31 (x0 : Nat) (x1 : Int32) (x2 : Int32) (x3 : Int32) (x4 : Int32) (x5 : Int32) (g : ps_G) : Option ((Int32 × Int32 × ps_G) ⊕ (Int32 × ps_G)) := Option.bind (q_fI 12 13 g x0) fun v6 => Option.bind (q_fI 12 14 g x0) fun v7 => if (v6 * v7) ≤ x5 then (some (.inr (x4, g))) else (Option.bind (q_ob 12 g x0) fun u10 => Option.bind (fX12_get g x0 x1 ((17 : Int32) + x5)) fun v11 => if ¬ (fX12_alpha v11) = 0 then (Option.bind (q_fR 12 61 g x0) fun v14 => Option.bind (v14) fun a15 => Option.bind (q_wI g a15 x4 (v11 &&& (16777215 : Int32))) fun g16 => jX12_few_84_31 g16 x0 x1 x2 x3 (x4 + (1 : Int32)) x5) else (jX12_few_84_31 g x0 x1 x2 x3 x4 x5))
theorem pbX12_few_31 {d : Nat} {Q : ps_Rs → ps_G → Prop}  {x0 : Nat} {x1 : Int32} {x2 : Int32} {x3 : Int32} {x4 : Int32} {x5 : Int32} {g : ps_G} {x : (Int32 × Int32 × ps_G) ⊕ (Int32 × ps_G)} (h : bX12_few_31 x0 x1 x2 x3 x4 x5 g = some x) (hh : ∀ s' : Int32 × Int32 × ps_G, x = .inl s' → ps_At mX12_few (d + 5) 31 [(0, .ref x0), (1, .int x1), (2, .int x2), (3, .int x3), (4, .int s'.1), (5, .int s'.2.1)] [] s'.2.2 Q) (he : ∀ r' : Int32 × ps_G, x = .inr r' → ps_At mX12_few (d + 5) 90 [(0, .ref x0), (1, .int x1), (2, .int x2), (3, .int x3), (4, .int r'.1)] [] r'.2 Q) : ps_At mX12_few (d + 5) 31 [(0, .ref x0), (1, .int x1), (2, .int x2), (3, .int x3), (4, .int x4), (5, .int x5)] [] g Q := by
  unfold bX12_few_31 at h
  refine sX12_few_31 ?_
  replace h := q_be h
  obtain ⟨v6, hv, h⟩ := h
  replace hv := q_fI_e hv
  obtain ⟨_, cv6, dv6⟩ := hv
  replace h := q_be h
  obtain ⟨v7, hv, h⟩ := h
  replace hv := q_fI_e hv
  obtain ⟨_, cv7, dv7⟩ := hv
  refine ⟨⟨some _, rfl⟩, _, _, cv6, dv6, ⟨some _, rfl⟩, _, _, cv7, dv7, ?_⟩
  refine And.intro (fun hc8 => ?_) (fun hc8 => ?_)
  · replace h := q_ifp (hc8) h
    exact ps_weak (he (x4, g) (Option.some.inj h).symm) ⟨rfl, rfl, rfl, rfl, rfl, trivial⟩
  · replace h := q_ifn (hc8) h
    replace h := q_be h
    obtain ⟨u10, hv, h⟩ := h
    replace hv := q_ob_e hv
    obtain ⟨_, cu10⟩ := hv
    replace h := q_be h
    obtain ⟨v11, hv, h⟩ := h
    refine ⟨⟨some _, rfl⟩, ⟨_, cu10⟩, ?_⟩
    refine rX12_get hv ?_
    refine ⟨by decide, ?_⟩
    refine rX12_alpha rfl ?_
    refine And.intro (fun hc12 => ?_) (fun hc12 => ?_)
    · replace h := q_ifp (hc12) h
      refine sX12_few_68 ?_
      replace h := q_be h
      obtain ⟨v14, hv, h⟩ := h
      replace hv := q_fR_e hv
      obtain ⟨_, cv14, dv14⟩ := hv
      replace h := q_be h
      obtain ⟨a15, ea15, h⟩ := h
      subst ea15
      replace h := q_be h
      obtain ⟨g16, hv, h⟩ := h
      replace hv := q_wI_e hv
      obtain ⟨_, _, cg16, pg16, ig16, yg16⟩ := hv
      refine ⟨⟨some _, rfl⟩, _, _, cv14, dv14, _, _, cg16, pg16, ig16, _, yg16, by decide, ?_⟩
      exact ps_weak (pjX12_few_84_31 h hh he) ⟨rfl, rfl, rfl, rfl, rfl, rfl, trivial⟩
    · replace h := q_ifn (hc12) h
      exact ps_weak (pjX12_few_84_31 h hh he) ⟨rfl, rfl, rfl, rfl, rfl, rfl, trivial⟩
noncomputable def bX12_few_117 (x0 : Nat) (x1 : Int32) (x2 : Int32) (x3 : Int32) (x5 : Int32) (g : ps_G) : Option ((Int32 × ps_G) ⊕ (Int32 × ps_G)) := if (x5 ≤ 0) ∨ (x2 ≤ x5) then (some (.inr (x5, g))) else (Option.bind (q_ob 12 g x0) fun u34 => q_b2 (fX12_cutBox g x0 x5) fun v35 g36 => if v35 = 0 then (some (.inr (x5, g36))) else (some (.inl (x5 + (1 : Int32), g36))))
theorem pbX12_few_117 {d : Nat} {Q : ps_Rs → ps_G → Prop}  {x0 : Nat} {x1 : Int32} {x2 : Int32} {x3 : Int32} {x5 : Int32} {g : ps_G} {x : (Int32 × ps_G) ⊕ (Int32 × ps_G)} (h : bX12_few_117 x0 x1 x2 x3 x5 g = some x) (hh : ∀ s' : Int32 × ps_G, x = .inl s' → ps_At mX12_few (d + 5) 117 [(0, .ref x0), (1, .int x1), (2, .int x2), (3, .int x3), (5, .int s'.1)] [] s'.2 Q) (he : ∀ r' : Int32 × ps_G, x = .inr r' → ps_At mX12_few (d + 5) 143 [(0, .ref x0), (1, .int x1), (3, .int x3), (5, .int r'.1)] [] r'.2 Q) : ps_At mX12_few (d + 5) 117 [(0, .ref x0), (1, .int x1), (2, .int x2), (3, .int x3), (5, .int x5)] [] g Q := by
  unfold bX12_few_117 at h
  refine sX12_few_117 ?_
  have kT40 : (some (.inr (x5, g))) = some x → ps_At mX12_few (d + 5) 143 [(0, .ref x0), (1, .int x1), (3, .int x3), (5, .int x5)] [] g Q := fun h => by
    exact ps_weak (he (x5, g) (Option.some.inj h).symm) ⟨rfl, rfl, rfl, rfl, trivial⟩
  refine And.intro (fun hc31 => ?_) (fun hc31 => ?_)
  · exact ps_weak (kT40 (q_ifp (Or.inl hc31) h)) ⟨rfl, rfl, rfl, rfl, trivial⟩
  · refine And.intro (fun hc32 => ?_) (fun hc32 => ?_)
    · exact ps_weak (kT40 (q_ifp (Or.inr (hc32)) h)) ⟨rfl, rfl, rfl, rfl, trivial⟩
    · replace h := q_ifn (not_or.mpr ⟨hc31, hc32⟩) h
      replace h := q_be h
      obtain ⟨u34, hv, h⟩ := h
      replace hv := q_ob_e hv
      obtain ⟨_, cu34⟩ := hv
      replace h := q_b2_e h
      obtain ⟨v35, g36, hv, h⟩ := h
      refine ⟨⟨some _, rfl⟩, ⟨_, cu34⟩, ?_⟩
      refine rX12_cutBox hv ?_
      refine And.intro (fun hc37 => ?_) (fun hc37 => ?_)
      · replace h := q_ifp (hc37) h
        exact ps_weak (he (x5, g36) (Option.some.inj h).symm) ⟨rfl, rfl, rfl, rfl, trivial⟩
      · replace h := q_ifn (hc37) h
        refine ⟨by decide, ?_⟩
        exact ps_weak (hh (x5 + (1 : Int32), g36) (Option.some.inj h).symm) ⟨rfl, rfl, rfl, rfl, rfl, trivial⟩
noncomputable def bX12_few_146 (x0 : Nat) (x1 : Int32) (x3 : Int32) (x5 : Int32) (x6 : Int32) (g : ps_G) : Option ((Int32 × ps_G) ⊕ (ps_G)) := if x5 ≤ x6 then (some (.inr g)) else (Option.bind (q_ob 12 g x0) fun u45 => Option.bind (fX12_meanOfBox g x0 x6) fun v46 => some (.inl (x6 + (1 : Int32), v46)))
theorem pbX12_few_146 {d : Nat} {Q : ps_Rs → ps_G → Prop}  {x0 : Nat} {x1 : Int32} {x3 : Int32} {x5 : Int32} {x6 : Int32} {g : ps_G} {x : (Int32 × ps_G) ⊕ (ps_G)} (h : bX12_few_146 x0 x1 x3 x5 x6 g = some x) (hh : ∀ s' : Int32 × ps_G, x = .inl s' → ps_At mX12_few (d + 5) 146 [(0, .ref x0), (1, .int x1), (3, .int x3), (5, .int x5), (6, .int s'.1)] [] s'.2 Q) (he : ∀ r' : ps_G, x = .inr r' → ps_At mX12_few (d + 5) 165 [(0, .ref x0), (1, .int x1), (3, .int x3), (5, .int x5)] [] r' Q) : ps_At mX12_few (d + 5) 146 [(0, .ref x0), (1, .int x1), (3, .int x3), (5, .int x5), (6, .int x6)] [] g Q := by
  unfold bX12_few_146 at h
  refine sX12_few_146 ?_
  refine And.intro (fun hc43 => ?_) (fun hc43 => ?_)
  · replace h := q_ifp (hc43) h
    exact ps_weak (he g (Option.some.inj h).symm) ⟨rfl, rfl, rfl, rfl, trivial⟩
  · replace h := q_ifn (hc43) h
    replace h := q_be h
    obtain ⟨u45, hv, h⟩ := h
    replace hv := q_ob_e hv
    obtain ⟨_, cu45⟩ := hv
    replace h := q_be h
    obtain ⟨v46, hv, h⟩ := h
    refine ⟨⟨some _, rfl⟩, ⟨_, cu45⟩, ?_⟩
    refine rX12_meanOfBox hv ?_
    refine ⟨by decide, ?_⟩
    exact ps_weak (hh (x6 + (1 : Int32), v46) (Option.some.inj h).symm) ⟨rfl, rfl, rfl, rfl, rfl, trivial⟩
noncomputable def bX12_few_168 (x0 : Nat) (x1 : Int32) (x3 : Int32) (x5 : Int32) (x6 : Int32) (g : ps_G) : Option ((Int32 × ps_G) ⊕ (ps_G)) := if (1728 : Int32) ≤ x6 then (some (.inr g)) else (Option.bind (q_fR 12 65 g x0) fun v52 => Option.bind (v52) fun a53 => Option.bind (q_wI g a53 x6 (0 : Int32)) fun g54 => some (.inl (x6 + (1 : Int32), g54)))
theorem pbX12_few_168 {d : Nat} {Q : ps_Rs → ps_G → Prop}  {x0 : Nat} {x1 : Int32} {x3 : Int32} {x5 : Int32} {x6 : Int32} {g : ps_G} {x : (Int32 × ps_G) ⊕ (ps_G)} (h : bX12_few_168 x0 x1 x3 x5 x6 g = some x) (hh : ∀ s' : Int32 × ps_G, x = .inl s' → ps_At mX12_few (d + 5) 168 [(0, .ref x0), (1, .int x1), (3, .int x3), (5, .int x5), (6, .int s'.1)] [] s'.2 Q) (he : ∀ r' : ps_G, x = .inr r' → ps_At mX12_few (d + 5) 190 [(0, .ref x0), (1, .int x1), (3, .int x3), (5, .int x5)] [] r' Q) : ps_At mX12_few (d + 5) 168 [(0, .ref x0), (1, .int x1), (3, .int x3), (5, .int x5), (6, .int x6)] [] g Q := by
  unfold bX12_few_168 at h
  refine sX12_few_168 ?_
  refine And.intro (fun hc50 => ?_) (fun hc50 => ?_)
  · replace h := q_ifp (hc50) h
    exact ps_weak (he g (Option.some.inj h).symm) ⟨rfl, rfl, rfl, rfl, trivial⟩
  · replace h := q_ifn (hc50) h
    replace h := q_be h
    obtain ⟨v52, hv, h⟩ := h
    replace hv := q_fR_e hv
    obtain ⟨_, cv52, dv52⟩ := hv
    replace h := q_be h
    obtain ⟨a53, ea53, h⟩ := h
    subst ea53
    replace h := q_be h
    obtain ⟨g54, hv, h⟩ := h
    replace hv := q_wI_e hv
    obtain ⟨_, _, cg54, pg54, ig54, yg54⟩ := hv
    refine ⟨⟨some _, rfl⟩, _, _, cv52, dv52, _, _, cg54, pg54, ig54, _, yg54, by decide, ?_⟩
    exact ps_weak (hh (x6 + (1 : Int32), g54) (Option.some.inj h).symm) ⟨rfl, rfl, rfl, rfl, rfl, trivial⟩
noncomputable def jX12_few_258_193 (g : ps_G) (x0 : Nat) (x1 : Int32) (x3 : Int32) (x5 : Int32) (x6 : Int32) : Option ((Int32 × ps_G) ⊕ (ps_G)) := some (.inl (x6 + (1 : Int32), g))
theorem pjX12_few_258_193 {d : Nat} {Q : ps_Rs → ps_G → Prop} {g : ps_G} {x0 : Nat} {x1 : Int32} {x3 : Int32} {x5 : Int32} {x6 : Int32} {x : (Int32 × ps_G) ⊕ (ps_G)} (h : jX12_few_258_193 g x0 x1 x3 x5 x6 = some x) (hh : ∀ s' : Int32 × ps_G, x = .inl s' → ps_At mX12_few (d + 5) 193 [(0, .ref x0), (1, .int x1), (3, .int x3), (5, .int x5), (6, .int s'.1)] [] s'.2 Q) (he : ∀ r' : ps_G, x = .inr r' → ps_At mX12_few (d + 5) 264 [(0, .ref x0), (5, .int x5)] [] r' Q) : ps_At mX12_few (d + 5) 258 [(0, .ref x0), (1, .int x1), (3, .int x3), (5, .int x5), (6, .int x6)] [] g Q := by
  unfold jX12_few_258_193 at h
  refine sX12_few_258 ?_
  refine ⟨by decide, ?_⟩
  exact ps_weak (hh (x6 + (1 : Int32), g) (Option.some.inj h).symm) ⟨rfl, rfl, rfl, rfl, rfl, trivial⟩
noncomputable def bX12_few_193 (x0 : Nat) (x1 : Int32) (x3 : Int32) (x5 : Int32) (x6 : Int32) (g : ps_G) : Option ((Int32 × ps_G) ⊕ (ps_G)) := Option.bind (q_fI 12 13 g x0) fun v58 => Option.bind (q_fI 12 14 g x0) fun v59 => if (v58 * v59) ≤ x6 then (some (.inr g)) else (Option.bind (q_ob 12 g x0) fun u62 => Option.bind (fX12_get g x0 x1 ((17 : Int32) + x6)) fun v63 => if (fX12_alpha v63) ≤ 0 then (jX12_few_258_193 g x0 x1 x3 x5 x6) else (Option.bind (q_ob 12 g x0) fun u66 => q_b2 (fX12_fewAt g x0 x1 x6 v63 x5 x3) fun v67 g68 => Option.bind (q_ob 12 g68 x0) fun u69 => Option.bind (fX12_put g68 x0 x1 ((17 : Int32) + x6) ((q_shl (fX12_alpha v63) (24 : Int32)) ||| v67)) fun v70 => jX12_few_258_193 v70 x0 x1 x3 x5 x6))
theorem pbX12_few_193 {d : Nat} {Q : ps_Rs → ps_G → Prop}  {x0 : Nat} {x1 : Int32} {x3 : Int32} {x5 : Int32} {x6 : Int32} {g : ps_G} {x : (Int32 × ps_G) ⊕ (ps_G)} (h : bX12_few_193 x0 x1 x3 x5 x6 g = some x) (hh : ∀ s' : Int32 × ps_G, x = .inl s' → ps_At mX12_few (d + 5) 193 [(0, .ref x0), (1, .int x1), (3, .int x3), (5, .int x5), (6, .int s'.1)] [] s'.2 Q) (he : ∀ r' : ps_G, x = .inr r' → ps_At mX12_few (d + 5) 264 [(0, .ref x0), (5, .int x5)] [] r' Q) : ps_At mX12_few (d + 5) 193 [(0, .ref x0), (1, .int x1), (3, .int x3), (5, .int x5), (6, .int x6)] [] g Q := by
  unfold bX12_few_193 at h
  refine sX12_few_193 ?_
  replace h := q_be h
  obtain ⟨v58, hv, h⟩ := h
  replace hv := q_fI_e hv
  obtain ⟨_, cv58, dv58⟩ := hv
  replace h := q_be h
  obtain ⟨v59, hv, h⟩ := h
  replace hv := q_fI_e hv
  obtain ⟨_, cv59, dv59⟩ := hv
  refine ⟨⟨some _, rfl⟩, _, _, cv58, dv58, ⟨some _, rfl⟩, _, _, cv59, dv59, ?_⟩
  refine And.intro (fun hc60 => ?_) (fun hc60 => ?_)
  · replace h := q_ifp (hc60) h
    exact ps_weak (he g (Option.some.inj h).symm) ⟨rfl, rfl, trivial⟩
  · replace h := q_ifn (hc60) h
    replace h := q_be h
    obtain ⟨u62, hv, h⟩ := h
    replace hv := q_ob_e hv
    obtain ⟨_, cu62⟩ := hv
    replace h := q_be h
    obtain ⟨v63, hv, h⟩ := h
    refine ⟨⟨some _, rfl⟩, ⟨_, cu62⟩, ?_⟩
    refine rX12_get hv ?_
    refine ⟨by decide, ?_⟩
    refine rX12_alpha rfl ?_
    refine And.intro (fun hc64 => ?_) (fun hc64 => ?_)
    · replace h := q_ifp (hc64) h
      exact ps_weak (pjX12_few_258_193 h hh he) ⟨rfl, rfl, rfl, rfl, rfl, trivial⟩
    · replace h := q_ifn (hc64) h
      refine ⟨⟨some _, rfl⟩, ?_⟩
      refine rX12_alpha rfl ?_
      replace h := q_be h
      obtain ⟨u66, hv, h⟩ := h
      replace hv := q_ob_e hv
      obtain ⟨_, cu66⟩ := hv
      replace h := q_b2_e h
      obtain ⟨v67, g68, hv, h⟩ := h
      refine ⟨⟨some _, rfl⟩, ⟨_, cu66⟩, ?_⟩
      refine rX12_fewAt hv ?_
      replace h := q_be h
      obtain ⟨u69, hv, h⟩ := h
      replace hv := q_ob_e hv
      obtain ⟨_, cu69⟩ := hv
      replace h := q_be h
      obtain ⟨v70, hv, h⟩ := h
      refine ⟨⟨_, cu69⟩, ?_⟩
      refine rX12_put hv ?_
      exact ps_weak (pjX12_few_258_193 h hh he) ⟨rfl, rfl, rfl, rfl, rfl, trivial⟩
noncomputable def jX12_few_143 (g : ps_G) (x0 : Nat) (x1 : Int32) (x3 : Int32) (x5 : Int32) : Option (Int32 × ps_G) := Option.bind (q_lp (fun s => bX12_few_146 x0 x1 x3 x5 s.1 s.2) ((0 : Int32), g)) fun s49 => Option.bind (q_lp (fun s => bX12_few_168 x0 x1 x3 x5 s.1 s.2) ((0 : Int32), s49)) fun s57 => Option.bind (q_lp (fun s => bX12_few_193 x0 x1 x3 x5 s.1 s.2) ((0 : Int32), s57)) fun s75 => Option.bind (q_ob 12 s75 x0) fun u76 => Option.bind (fX12_edited s75 x0) fun v77 => Option.bind (q_ob 12 v77 x0) fun u78 => Option.bind (fX12_forget v77 x0) fun v79 => some (x5, v79)
theorem pjX12_few_143 {d : Nat} {Q : ps_Rs → ps_G → Prop} {g : ps_G} {x0 : Nat} {x1 : Int32} {x3 : Int32} {x5 : Int32} {r : Int32 × ps_G} (h : jX12_few_143 g x0 x1 x3 x5 = some r) (hk : Q (.inl (some (.int r.1))) r.2) : ps_At mX12_few (d + 5) 143 [(0, .ref x0), (1, .int x1), (3, .int x3), (5, .int x5)] [] g Q := by
  unfold jX12_few_143 at h
  refine sX12_few_143 ?_
  refine ⟨by decide, ?_⟩
  replace h := q_be h
  obtain ⟨s49, hl, h⟩ := h
  refine ps_weak (q_lp_ok hl (fun s => ps_At mX12_few (d + 5) 146 [(0, .ref x0), (1, .int x1), (3, .int x3), (5, .int x5), (6, .int s.1)] [] s.2 Q) (fun r => ps_At mX12_few (d + 5) 165 [(0, .ref x0), (1, .int x1), (3, .int x3), (5, .int x5)] [] r Q) (fun s x hb hh he => pbX12_few_146 hb hh he) ?_) ⟨rfl, rfl, rfl, rfl, rfl, trivial⟩
  refine (?_ : ps_At mX12_few (d + 5) 165 [(0, .ref x0), (1, .int x1), (3, .int x3), (5, .int x5)] [] s49 Q)
  refine sX12_few_165 ?_
  refine ⟨by decide, ?_⟩
  replace h := q_be h
  obtain ⟨s57, hl, h⟩ := h
  refine ps_weak (q_lp_ok hl (fun s => ps_At mX12_few (d + 5) 168 [(0, .ref x0), (1, .int x1), (3, .int x3), (5, .int x5), (6, .int s.1)] [] s.2 Q) (fun r => ps_At mX12_few (d + 5) 190 [(0, .ref x0), (1, .int x1), (3, .int x3), (5, .int x5)] [] r Q) (fun s x hb hh he => pbX12_few_168 hb hh he) ?_) ⟨rfl, rfl, rfl, rfl, rfl, trivial⟩
  refine (?_ : ps_At mX12_few (d + 5) 190 [(0, .ref x0), (1, .int x1), (3, .int x3), (5, .int x5)] [] s57 Q)
  refine sX12_few_190 ?_
  refine ⟨by decide, ?_⟩
  replace h := q_be h
  obtain ⟨s75, hl, h⟩ := h
  refine ps_weak (q_lp_ok hl (fun s => ps_At mX12_few (d + 5) 193 [(0, .ref x0), (1, .int x1), (3, .int x3), (5, .int x5), (6, .int s.1)] [] s.2 Q) (fun r => ps_At mX12_few (d + 5) 264 [(0, .ref x0), (5, .int x5)] [] r Q) (fun s x hb hh he => pbX12_few_193 hb hh he) ?_) ⟨rfl, rfl, rfl, rfl, rfl, trivial⟩
  refine (?_ : ps_At mX12_few (d + 5) 264 [(0, .ref x0), (5, .int x5)] [] s75 Q)
  refine sX12_few_264 ?_
  replace h := q_be h
  obtain ⟨u76, hv, h⟩ := h
  replace hv := q_ob_e hv
  obtain ⟨_, cu76⟩ := hv
  replace h := q_be h
  obtain ⟨v77, hv, h⟩ := h
  refine ⟨⟨some _, rfl⟩, ⟨_, cu76⟩, ?_⟩
  refine rX12_edited hv ?_
  replace h := q_be h
  obtain ⟨u78, hv, h⟩ := h
  replace hv := q_ob_e hv
  obtain ⟨_, cu78⟩ := hv
  replace h := q_be h
  obtain ⟨v79, hv, h⟩ := h
  refine ⟨⟨some _, rfl⟩, ⟨_, cu78⟩, ?_⟩
  refine rX12_forget hv ?_
  cases h
  exact ⟨rfl, hk⟩
noncomputable def fX12_few (g : ps_G) (x0 : Nat) (x1 : Int32) (x2 : Int32) (x3 : Int32) : Option (Int32 × ps_G) := Option.bind (q_ob 12 g x0) fun u1 => Option.bind (fX12_why g x0 x1 (fX12_in x2 (2 : Int32) (16 : Int32))) fun v2 => Option.bind (q_sI 12 0 g x0 v2) fun g3 => Option.bind (q_fI 12 0 g3 x0) fun v4 => if v4 ≤ 0 then (Option.bind (q_lp (fun s => bX12_few_31 x0 x1 x2 x3 s.1 s.2.1 s.2.2) ((0 : Int32), (0 : Int32), g3)) fun s21 => Option.bind (q_fR 12 62 s21.2 x0) fun v25 => Option.bind (v25) fun a26 => Option.bind (q_wI s21.2 a26 (0 : Int32) (0 : Int32)) fun g27 => Option.bind (q_fR 12 63 g27 x0) fun v28 => Option.bind (v28) fun a29 => Option.bind (q_wI g27 a29 (0 : Int32) s21.1) fun g30 => Option.bind (q_lp (fun s => bX12_few_117 x0 x1 x2 x3 s.1 s.2) ((if s21.1 ≤ 0 then (0 : Int32) else (1 : Int32)), g30)) fun s42 => jX12_few_143 s42.2 x0 x1 x3 s42.1) else (some ((0 : Int32), g3))
theorem rX12_few {d : Nat} {Q : ps_Rs → ps_G → Prop} {g : ps_G} {x0 : Nat} {x1 : Int32} {x2 : Int32} {x3 : Int32} {r : Int32 × ps_G} (h : fX12_few g x0 x1 x2 x3 = some r) (hk : Q (.inl (some (.int r.1))) r.2) : ps_Ok mX12_few (d + 5) [.ref x0, .int x1, .int x2, .int x3] g Q := by
  unfold fX12_few at h
  refine sX12_few_0 ?_
  refine ⟨⟨some _, rfl⟩, ⟨some _, rfl⟩, ?_⟩
  refine rX12_in rfl ?_
  replace h := q_be h
  obtain ⟨u1, hv, h⟩ := h
  replace hv := q_ob_e hv
  obtain ⟨_, cu1⟩ := hv
  replace h := q_be h
  obtain ⟨v2, hv, h⟩ := h
  refine ⟨⟨_, cu1⟩, ?_⟩
  refine rX12_why hv ?_
  replace h := q_be h
  obtain ⟨g3, hv, h⟩ := h
  replace hv := q_sI_e hv
  obtain ⟨_, cg3, dg3, yg3⟩ := hv
  replace h := q_be h
  obtain ⟨v4, hv, h⟩ := h
  replace hv := q_fI_e hv
  obtain ⟨_, cv4, dv4⟩ := hv
  refine ⟨_, cg3, dg3, rfl, rfl, _, yg3, ⟨some _, rfl⟩, _, _, cv4, dv4, ?_⟩
  refine And.intro (fun hc5 => ?_) (fun hc5 => ?_)
  · replace h := q_ifp (hc5) h
    refine sX12_few_25 ?_
    refine ⟨by decide, by decide, ?_⟩
    replace h := q_be h
    obtain ⟨s21, hl, h⟩ := h
    refine ps_weak (q_lp_ok hl (fun s => ps_At mX12_few (d + 5) 31 [(0, .ref x0), (1, .int x1), (2, .int x2), (3, .int x3), (4, .int s.1), (5, .int s.2.1)] [] s.2.2 Q) (fun r => ps_At mX12_few (d + 5) 90 [(0, .ref x0), (1, .int x1), (2, .int x2), (3, .int x3), (4, .int r.1)] [] r.2 Q) (fun s x hb hh he => pbX12_few_31 hb hh he) ?_) ⟨rfl, rfl, rfl, rfl, rfl, rfl, trivial⟩
    refine (?_ : ps_At mX12_few (d + 5) 90 [(0, .ref x0), (1, .int x1), (2, .int x2), (3, .int x3), (4, .int s21.1)] [] s21.2 Q)
    refine sX12_few_90 ?_
    have kJ24 : ∀ w23 : Int32, w23 = (if s21.1 ≤ 0 then (0 : Int32) else (1 : Int32)) → ps_At mX12_few (d + 5) 100 [(0, .ref x0), (1, .int x1), (2, .int x2), (3, .int x3), (4, .int s21.1)] [.int w23] s21.2 Q := by
      rintro _ rfl
      refine sX12_few_100 ?_
      replace h := q_be h
      obtain ⟨v25, hv, h⟩ := h
      replace hv := q_fR_e hv
      obtain ⟨_, cv25, dv25⟩ := hv
      replace h := q_be h
      obtain ⟨a26, ea26, h⟩ := h
      subst ea26
      replace h := q_be h
      obtain ⟨g27, hv, h⟩ := h
      replace hv := q_wI_e hv
      obtain ⟨_, _, cg27, pg27, ig27, yg27⟩ := hv
      replace h := q_be h
      obtain ⟨v28, hv, h⟩ := h
      replace hv := q_fR_e hv
      obtain ⟨_, cv28, dv28⟩ := hv
      replace h := q_be h
      obtain ⟨a29, ea29, h⟩ := h
      subst ea29
      replace h := q_be h
      obtain ⟨g30, hv, h⟩ := h
      replace hv := q_wI_e hv
      obtain ⟨_, _, cg30, pg30, ig30, yg30⟩ := hv
      refine ⟨by decide, ⟨some _, rfl⟩, _, _, cv25, dv25, _, _, cg27, pg27, ig27, _, yg27, ⟨some _, rfl⟩, _, _, cv28, dv28, _, _, cg30, pg30, ig30, _, yg30, ?_⟩
      replace h := q_be h
      obtain ⟨s42, hl, h⟩ := h
      refine ps_weak (q_lp_ok hl (fun s => ps_At mX12_few (d + 5) 117 [(0, .ref x0), (1, .int x1), (2, .int x2), (3, .int x3), (5, .int s.1)] [] s.2 Q) (fun r => ps_At mX12_few (d + 5) 143 [(0, .ref x0), (1, .int x1), (3, .int x3), (5, .int r.1)] [] r.2 Q) (fun s x hb hh he => pbX12_few_117 hb hh he) ?_) ⟨rfl, rfl, rfl, rfl, rfl, trivial⟩
      refine (?_ : ps_At mX12_few (d + 5) 143 [(0, .ref x0), (1, .int x1), (3, .int x3), (5, .int s42.1)] [] s42.2 Q)
      exact ps_weak (pjX12_few_143 h hk) ⟨rfl, rfl, rfl, rfl, trivial⟩
    refine And.intro (fun hc22 => ?_) (fun hc22 => ?_)
    · refine sX12_few_99 ?_
      exact ps_weak (kJ24 _ (if_pos (hc22)).symm) ⟨rfl, rfl, rfl, rfl, rfl, trivial⟩
    · exact ps_weak (kJ24 _ (if_neg (hc22)).symm) ⟨rfl, rfl, rfl, rfl, rfl, trivial⟩
  · replace h := q_ifn (hc5) h
    cases h
    exact ⟨rfl, hk⟩
noncomputable def jX12_develop_58 (g : ps_G) : Option (ps_G) := some g
theorem pjX12_develop_58 {d : Nat} {Q : ps_Rs → ps_G → Prop} {g : ps_G}  {r : ps_G} (h : jX12_develop_58 g = some r) (hk : Q (.inl none) r) : ps_At mX12_develop (d + 1) 58 [] [] g Q := by
  unfold jX12_develop_58 at h
  refine sX12_develop_58 ?_
  cases h
  exact ⟨rfl, rfl, hk⟩
noncomputable def jX12_develop_41 (g : ps_G) (x0 : Nat) (x1 : Int32) (x2 : Int32) (k0 : Nat) (k1 : Int32) : Option (ps_G) := Option.bind (q_sI 12 0 g k0 k1) fun g3 => Option.bind (q_fI 12 0 g3 x0) fun v4 => if ¬ v4 = 0 then (jX12_develop_58 g3) else (Option.bind (q_fR 12 66 g3 x0) fun v7 => Option.bind (v7) fun a8 => Option.bind (q_wI g3 a8 x1 x2) fun g9 => jX12_develop_58 g9)
theorem pjX12_develop_41 {d : Nat} {Q : ps_Rs → ps_G → Prop} {g : ps_G} {x0 : Nat} {x1 : Int32} {x2 : Int32} {k0 : Nat} {k1 : Int32} {r : ps_G} (h : jX12_develop_41 g x0 x1 x2 k0 k1 = some r) (hk : Q (.inl none) r) : ps_At mX12_develop (d + 1) 41 [(0, .ref x0), (1, .int x1), (2, .int x2)] [.int k1, .ref k0] g Q := by
  unfold jX12_develop_41 at h
  refine sX12_develop_41 ?_
  replace h := q_be h
  obtain ⟨g3, hv, h⟩ := h
  replace hv := q_sI_e hv
  obtain ⟨_, cg3, dg3, yg3⟩ := hv
  replace h := q_be h
  obtain ⟨v4, hv, h⟩ := h
  replace hv := q_fI_e hv
  obtain ⟨_, cv4, dv4⟩ := hv
  refine ⟨_, cg3, dg3, rfl, rfl, _, yg3, ⟨some _, rfl⟩, _, _, cv4, dv4, ?_⟩
  refine And.intro (fun hc5 => ?_) (fun hc5 => ?_)
  · replace h := q_ifp (hc5) h
    exact ps_weak (pjX12_develop_58 h hk) trivial
  · replace h := q_ifn (hc5) h
    replace h := q_be h
    obtain ⟨v7, hv, h⟩ := h
    replace hv := q_fR_e hv
    obtain ⟨_, cv7, dv7⟩ := hv
    replace h := q_be h
    obtain ⟨a8, ea8, h⟩ := h
    subst ea8
    replace h := q_be h
    obtain ⟨g9, hv, h⟩ := h
    replace hv := q_wI_e hv
    obtain ⟨_, _, cg9, pg9, ig9, yg9⟩ := hv
    refine ⟨⟨some _, rfl⟩, _, _, cv7, dv7, _, _, cg9, pg9, ig9, _, yg9, ?_⟩
    exact ps_weak (pjX12_develop_58 h hk) trivial
noncomputable def jX12_develop_40 (g : ps_G) (x0 : Nat) (x1 : Int32) (x2 : Int32) (k0 : Nat) : Option (ps_G) := jX12_develop_41 g x0 x1 x2 k0 (1 : Int32)
theorem pjX12_develop_40 {d : Nat} {Q : ps_Rs → ps_G → Prop} {g : ps_G} {x0 : Nat} {x1 : Int32} {x2 : Int32} {k0 : Nat} {r : ps_G} (h : jX12_develop_40 g x0 x1 x2 k0 = some r) (hk : Q (.inl none) r) : ps_At mX12_develop (d + 1) 40 [(0, .ref x0), (1, .int x1), (2, .int x2)] [.ref k0] g Q := by
  unfold jX12_develop_40 at h
  refine sX12_develop_40 ?_
  exact ps_weak (pjX12_develop_41 h hk) ⟨rfl, rfl, rfl, trivial⟩
noncomputable def jX12_develop_36 (g : ps_G) (x0 : Nat) (x1 : Int32) (x2 : Int32) (k0 : Nat) : Option (ps_G) := jX12_develop_41 g x0 x1 x2 k0 (0 : Int32)
theorem pjX12_develop_36 {d : Nat} {Q : ps_Rs → ps_G → Prop} {g : ps_G} {x0 : Nat} {x1 : Int32} {x2 : Int32} {k0 : Nat} {r : ps_G} (h : jX12_develop_36 g x0 x1 x2 k0 = some r) (hk : Q (.inl none) r) : ps_At mX12_develop (d + 1) 36 [(0, .ref x0), (1, .int x1), (2, .int x2)] [.ref k0] g Q := by
  unfold jX12_develop_36 at h
  refine sX12_develop_36 ?_
  exact ps_weak (pjX12_develop_41 h hk) ⟨rfl, rfl, rfl, trivial⟩
noncomputable def jX12_develop_16 (g : ps_G) (x0 : Nat) (x1 : Int32) (x2 : Int32) (k0 : Nat) : Option (ps_G) := if (fX12_in x1 (1 : Int32) (3 : Int32)) = 0 then (jX12_develop_40 g x0 x1 x2 k0) else (if (fX12_in x2 (0 : Int32) (1024 : Int32)) = 0 then (jX12_develop_40 g x0 x1 x2 k0) else (jX12_develop_36 g x0 x1 x2 k0))
theorem pjX12_develop_16 {d : Nat} {Q : ps_Rs → ps_G → Prop} {g : ps_G} {x0 : Nat} {x1 : Int32} {x2 : Int32} {k0 : Nat} {r : ps_G} (h : jX12_develop_16 g x0 x1 x2 k0 = some r) (hk : Q (.inl none) r) : ps_At mX12_develop (d + 1) 16 [(0, .ref x0), (1, .int x1), (2, .int x2)] [.ref k0] g Q := by
  unfold jX12_develop_16 at h
  refine sX12_develop_16 ?_
  refine rX12_in rfl ?_
  refine And.intro (fun hc2 => ?_) (fun hc2 => ?_)
  · replace h := q_ifp (hc2) h
    exact ps_weak (pjX12_develop_40 h hk) ⟨rfl, rfl, rfl, trivial⟩
  · replace h := q_ifn (hc2) h
    refine rX12_in rfl ?_
    refine And.intro (fun hc12 => ?_) (fun hc12 => ?_)
    · replace h := q_ifp (hc12) h
      exact ps_weak (pjX12_develop_40 h hk) ⟨rfl, rfl, rfl, trivial⟩
    · replace h := q_ifn (hc12) h
      exact ps_weak (pjX12_develop_36 h hk) ⟨rfl, rfl, rfl, trivial⟩
noncomputable def fX12_develop (g : ps_G) (x0 : Nat) (x1 : Int32) (x2 : Int32) : Option (ps_G) := if ¬ x1 = 0 then (jX12_develop_16 g x0 x1 x2 x0) else (if ¬ (fX12_in x2 (0 : Int32) (4095 : Int32)) = 0 then (jX12_develop_36 g x0 x1 x2 x0) else (jX12_develop_16 g x0 x1 x2 x0))
theorem rX12_develop {d : Nat} {Q : ps_Rs → ps_G → Prop} {g : ps_G} {x0 : Nat} {x1 : Int32} {x2 : Int32} {r : ps_G} (h : fX12_develop g x0 x1 x2 = some r) (hk : Q (.inl none) r) : ps_Ok mX12_develop (d + 1) [.ref x0, .int x1, .int x2] g Q := by
  unfold fX12_develop at h
  refine sX12_develop_0 ?_
  refine ⟨⟨some _, rfl⟩, ?_⟩
  refine And.intro (fun hc1 => ?_) (fun hc1 => ?_)
  · replace h := q_ifp (hc1) h
    exact ps_weak (pjX12_develop_16 h hk) ⟨rfl, rfl, rfl, trivial⟩
  · replace h := q_ifn (hc1) h
    refine rX12_in rfl ?_
    refine And.intro (fun hc17 => ?_) (fun hc17 => ?_)
    · replace h := q_ifp (hc17) h
      exact ps_weak (pjX12_develop_36 h hk) ⟨rfl, rfl, rfl, trivial⟩
    · replace h := q_ifn (hc17) h
      exact ps_weak (pjX12_develop_16 h hk) ⟨rfl, rfl, rfl, trivial⟩
noncomputable def fX12_wrong (g : ps_G) (x0 : Nat) (x1 : Int32) (x2 : Int32) : Option (ps_G) := Option.bind (q_fI 12 4 g x0) fun v1 => if v1 ≤ 0 then (Option.bind (q_sI 12 4 g x0 x1) fun g3 => Option.bind (q_sI 12 5 g3 x0 x2) fun g4 => some g4) else (some g)
theorem rX12_wrong {d : Nat} {Q : ps_Rs → ps_G → Prop} {g : ps_G} {x0 : Nat} {x1 : Int32} {x2 : Int32} {r : ps_G} (h : fX12_wrong g x0 x1 x2 = some r) (hk : Q (.inl none) r) : ps_Ok mX12_wrong d [.ref x0, .int x1, .int x2] g Q := by
  unfold fX12_wrong at h
  refine sX12_wrong_0 ?_
  replace h := q_be h
  obtain ⟨v1, hv, h⟩ := h
  replace hv := q_fI_e hv
  obtain ⟨_, cv1, dv1⟩ := hv
  refine ⟨⟨some _, rfl⟩, _, _, cv1, dv1, ?_⟩
  refine And.intro (fun hc2 => ?_) (fun hc2 => ?_)
  · replace h := q_ifp (hc2) h
    refine sX12_wrong_8 ?_
    replace h := q_be h
    obtain ⟨g3, hv, h⟩ := h
    replace hv := q_sI_e hv
    obtain ⟨_, cg3, dg3, yg3⟩ := hv
    replace h := q_be h
    obtain ⟨g4, hv, h⟩ := h
    replace hv := q_sI_e hv
    obtain ⟨_, cg4, dg4, yg4⟩ := hv
    cases h
    exact ⟨⟨some _, rfl⟩, _, cg3, dg3, rfl, rfl, _, yg3, ⟨some _, rfl⟩, _, cg4, dg4, rfl, rfl, _, yg4, rfl, rfl, hk⟩
  · replace h := q_ifn (hc2) h
    cases h
    exact ⟨rfl, rfl, hk⟩
def jX12_rawPart_35 (k0 : Int32) : Int32 := k0
theorem pjX12_rawPart_35 {d : Nat} {Q : ps_Rs → ps_G → Prop} {g : ps_G} {k0 : Int32} {r : Int32} (h : jX12_rawPart_35 k0 = r) (hk : Q (.inl (some (.int r))) g) : ps_At mX12_rawPart d 35 [] [.int k0] g Q := by
  unfold jX12_rawPart_35 at h
  refine sX12_rawPart_35 ?_
  subst h
  exact ⟨rfl, hk⟩
def jX12_rawPart_34  : Int32 := jX12_rawPart_35 (1 : Int32)
theorem pjX12_rawPart_34 {d : Nat} {Q : ps_Rs → ps_G → Prop} {g : ps_G}  {r : Int32} (h : jX12_rawPart_34  = r) (hk : Q (.inl (some (.int r))) g) : ps_At mX12_rawPart d 34 [] [] g Q := by
  unfold jX12_rawPart_34 at h
  refine sX12_rawPart_34 ?_
  exact ps_weak (pjX12_rawPart_35 h hk) trivial
def jX12_rawPart_16 (x0 : Int32) (x1 : Int32) : Int32 := if ¬ (q_rem x0 (2 : Int32)) = (1 : Int32) then (jX12_rawPart_34) else (if ¬ (q_rem x1 (2 : Int32)) = (1 : Int32) then (jX12_rawPart_34) else (jX12_rawPart_35 (2 : Int32)))
theorem pjX12_rawPart_16 {d : Nat} {Q : ps_Rs → ps_G → Prop} {g : ps_G} {x0 : Int32} {x1 : Int32} {r : Int32} (h : jX12_rawPart_16 x0 x1 = r) (hk : Q (.inl (some (.int r))) g) : ps_At mX12_rawPart d 16 [(0, .int x0), (1, .int x1)] [] g Q := by
  unfold jX12_rawPart_16 at h
  refine sX12_rawPart_16 ?_
  refine ⟨by decide, _, rfl, ?_⟩
  refine And.intro (fun hc2 => ?_) (fun hc2 => ?_)
  · replace h := q_ifp (hc2) h
    exact ps_weak (pjX12_rawPart_34 h hk) trivial
  · replace h := q_ifn (hc2) h
    refine ⟨by decide, _, rfl, ?_⟩
    refine And.intro (fun hc3 => ?_) (fun hc3 => ?_)
    · replace h := q_ifp (hc3) h
      exact ps_weak (pjX12_rawPart_34 h hk) trivial
    · replace h := q_ifn (hc3) h
      exact ps_weak (pjX12_rawPart_35 h hk) trivial
def fX12_rawPart (x0 : Int32) (x1 : Int32) : Int32 := if ¬ (q_rem x0 (2 : Int32)) = 0 then (jX12_rawPart_16 x0 x1) else (if ¬ (q_rem x1 (2 : Int32)) = 0 then (jX12_rawPart_16 x0 x1) else (jX12_rawPart_35 (0 : Int32)))
theorem rX12_rawPart {d : Nat} {Q : ps_Rs → ps_G → Prop} {g : ps_G} {x0 : Int32} {x1 : Int32} {r : Int32} (h : fX12_rawPart x0 x1 = r) (hk : Q (.inl (some (.int r))) g) : ps_Ok mX12_rawPart d [.int x0, .int x1] g Q := by
  unfold fX12_rawPart at h
  refine sX12_rawPart_0 ?_
  refine ⟨by decide, _, rfl, ?_⟩
  refine And.intro (fun hc1 => ?_) (fun hc1 => ?_)
  · replace h := q_ifp (hc1) h
    exact ps_weak (pjX12_rawPart_16 h hk) ⟨rfl, rfl, trivial⟩
  · replace h := q_ifn (hc1) h
    refine ⟨by decide, _, rfl, ?_⟩
    refine And.intro (fun hc8 => ?_) (fun hc8 => ?_)
    · replace h := q_ifp (hc8) h
      exact ps_weak (pjX12_rawPart_16 h hk) ⟨rfl, rfl, trivial⟩
    · replace h := q_ifn (hc8) h
      exact ps_weak (pjX12_rawPart_35 h hk) trivial
noncomputable def fX12_full (g : ps_G) (x0 : Nat) : Option (Int32 × ps_G) := Option.bind (q_fR 12 8 g x0) fun v1 => Option.bind (v1) fun a2 => Option.bind (q_aI g a2 (35070 : Int32)) fun v3 => Option.bind (q_sI 12 0 g x0 (if ¬ v3 = (30 : Int32) then (0 : Int32) else (1 : Int32))) fun g7 => Option.bind (q_fI 12 0 g7 x0) fun v8 => if ¬ v8 = 0 then (Option.bind (q_sI 12 4 g7 x0 (0 : Int32)) fun g10 => Option.bind (q_sI 12 5 g10 x0 (0 : Int32)) fun g11 => some ((1 : Int32), g11)) else (some ((0 : Int32), g7))
theorem rX12_full {d : Nat} {Q : ps_Rs → ps_G → Prop} {g : ps_G} {x0 : Nat} {r : Int32 × ps_G} (h : fX12_full g x0 = some r) (hk : Q (.inl (some (.int r.1))) r.2) : ps_Ok mX12_full d [.ref x0] g Q := by
  unfold fX12_full at h
  refine sX12_full_0 ?_
  replace h := q_be h
  obtain ⟨v1, hv, h⟩ := h
  replace hv := q_fR_e hv
  obtain ⟨_, cv1, dv1⟩ := hv
  replace h := q_be h
  obtain ⟨a2, ea2, h⟩ := h
  subst ea2
  replace h := q_be h
  obtain ⟨v3, hv, h⟩ := h
  replace hv := q_aI_e hv
  obtain ⟨_, _, cv3, iv3, yv3⟩ := hv
  have kJ6 : ∀ w5 : Int32, w5 = (if ¬ v3 = (30 : Int32) then (0 : Int32) else (1 : Int32)) → ps_At mX12_full d 19 [(0, .ref x0)] [.int w5, .ref x0] g Q := by
    rintro _ rfl
    refine sX12_full_19 ?_
    replace h := q_be h
    obtain ⟨g7, hv, h⟩ := h
    replace hv := q_sI_e hv
    obtain ⟨_, cg7, dg7, yg7⟩ := hv
    replace h := q_be h
    obtain ⟨v8, hv, h⟩ := h
    replace hv := q_fI_e hv
    obtain ⟨_, cv8, dv8⟩ := hv
    refine ⟨_, cg7, dg7, rfl, rfl, _, yg7, ⟨some _, rfl⟩, _, _, cv8, dv8, ?_⟩
    refine And.intro (fun hc9 => ?_) (fun hc9 => ?_)
    · replace h := q_ifp (hc9) h
      refine sX12_full_31 ?_
      replace h := q_be h
      obtain ⟨g10, hv, h⟩ := h
      replace hv := q_sI_e hv
      obtain ⟨_, cg10, dg10, yg10⟩ := hv
      replace h := q_be h
      obtain ⟨g11, hv, h⟩ := h
      replace hv := q_sI_e hv
      obtain ⟨_, cg11, dg11, yg11⟩ := hv
      cases h
      exact ⟨⟨some _, rfl⟩, _, cg10, dg10, rfl, rfl, _, yg10, ⟨some _, rfl⟩, _, cg11, dg11, rfl, rfl, _, yg11, rfl, Or.inr rfl, hk⟩
    · replace h := q_ifn (hc9) h
      cases h
      exact ⟨rfl, Or.inl rfl, hk⟩
  refine ⟨⟨some _, rfl⟩, ⟨some _, rfl⟩, _, _, cv1, dv1, _, _, cv3, iv3, _, yv3, ?_⟩
  refine And.intro (fun hc4 => ?_) (fun hc4 => ?_)
  · refine sX12_full_18 ?_
    exact ps_weak (kJ6 _ (if_pos (hc4)).symm) ⟨rfl, trivial⟩
  · exact ps_weak (kJ6 _ (if_neg (hc4)).symm) ⟨rfl, trivial⟩
noncomputable def jX12_rawAt_112_58 (g : ps_G) (x0 : Nat) (x2 : Int32) (x3 : Int32) (x4 : Int32) (x5 : Int32) (x6 : Int32) (x7 : Int32) (x8 : Int32) : Option ((Int32 × Int32 × Int32) ⊕ (Int32 × Int32)) := some (.inl (x5, x6, x8 + (1 : Int32)))
theorem pjX12_rawAt_112_58 {d : Nat} {Q : ps_Rs → ps_G → Prop} {g : ps_G} {x0 : Nat} {x2 : Int32} {x3 : Int32} {x4 : Int32} {x5 : Int32} {x6 : Int32} {x7 : Int32} {x8 : Int32} {x : (Int32 × Int32 × Int32) ⊕ (Int32 × Int32)} (h : jX12_rawAt_112_58 g x0 x2 x3 x4 x5 x6 x7 x8 = some x) (hh : ∀ s' : Int32 × Int32 × Int32, x = .inl s' → ps_At mX12_rawAt (d + 1) 58 [(0, .ref x0), (2, .int x2), (3, .int x3), (4, .int x4), (5, .int s'.1), (6, .int s'.2.1), (7, .int x7), (8, .int s'.2.2)] [] g Q) (he : ∀ r' : Int32 × Int32, x = .inr r' → ps_At mX12_rawAt (d + 1) 118 [(0, .ref x0), (2, .int x2), (3, .int x3), (4, .int x4), (5, .int r'.1), (6, .int r'.2), (7, .int x7)] [] g Q) : ps_At mX12_rawAt (d + 1) 112 [(0, .ref x0), (2, .int x2), (3, .int x3), (4, .int x4), (5, .int x5), (6, .int x6), (7, .int x7), (8, .int x8)] [] g Q := by
  unfold jX12_rawAt_112_58 at h
  refine sX12_rawAt_112 ?_
  refine ⟨by decide, ?_⟩
  exact ps_weak (hh (x5, x6, x8 + (1 : Int32)) (Option.some.inj h).symm) ⟨rfl, rfl, rfl, rfl, rfl, rfl, rfl, rfl, trivial⟩
noncomputable def bX12_rawAt_58 (g : ps_G) (x0 : Nat) (x2 : Int32) (x3 : Int32) (x4 : Int32) (x7 : Int32) (x5 : Int32) (x6 : Int32) (x8 : Int32) : Option ((Int32 × Int32 × Int32) ⊕ (Int32 × Int32)) := if (x3 + (1 : Int32)) < x8 then (some (.inr (x5, x6))) else (Option.bind (q_ob 12 g x0) fun u9 => Option.bind (fX12_isPlace g x0 x8 x7) fun v10 => if v10 = 0 then (jX12_rawAt_112_58 g x0 x2 x3 x4 x5 x6 x7 x8) else (if (fX12_rawPart x8 x7) = x2 then (Option.bind (q_fR 12 67 g x0) fun v16 => Option.bind (v16) fun a17 => Option.bind (q_ob 12 g x0) fun u18 => Option.bind (fX12_at g x0 x8 x7) fun v19 => Option.bind (q_aI g a17 v19) fun v20 => jX12_rawAt_112_58 g x0 x2 x3 x4 (x5 + v20) (x6 + (1 : Int32)) x7 x8) else (jX12_rawAt_112_58 g x0 x2 x3 x4 x5 x6 x7 x8)))
theorem pbX12_rawAt_58 {d : Nat} {Q : ps_Rs → ps_G → Prop} {g : ps_G} {x0 : Nat} {x2 : Int32} {x3 : Int32} {x4 : Int32} {x7 : Int32} {x5 : Int32} {x6 : Int32} {x8 : Int32} {x : (Int32 × Int32 × Int32) ⊕ (Int32 × Int32)} (h : bX12_rawAt_58 g x0 x2 x3 x4 x7 x5 x6 x8 = some x) (hh : ∀ s' : Int32 × Int32 × Int32, x = .inl s' → ps_At mX12_rawAt (d + 1) 58 [(0, .ref x0), (2, .int x2), (3, .int x3), (4, .int x4), (5, .int s'.1), (6, .int s'.2.1), (7, .int x7), (8, .int s'.2.2)] [] g Q) (he : ∀ r' : Int32 × Int32, x = .inr r' → ps_At mX12_rawAt (d + 1) 118 [(0, .ref x0), (2, .int x2), (3, .int x3), (4, .int x4), (5, .int r'.1), (6, .int r'.2), (7, .int x7)] [] g Q) : ps_At mX12_rawAt (d + 1) 58 [(0, .ref x0), (2, .int x2), (3, .int x3), (4, .int x4), (5, .int x5), (6, .int x6), (7, .int x7), (8, .int x8)] [] g Q := by
  unfold bX12_rawAt_58 at h
  refine sX12_rawAt_58 ?_
  refine And.intro (fun hc7 => ?_) (fun hc7 => ?_)
  · replace h := q_ifp (hc7) h
    exact ps_weak (he (x5, x6) (Option.some.inj h).symm) ⟨rfl, rfl, rfl, rfl, rfl, rfl, rfl, trivial⟩
  · replace h := q_ifn (hc7) h
    replace h := q_be h
    obtain ⟨u9, hv, h⟩ := h
    replace hv := q_ob_e hv
    obtain ⟨_, cu9⟩ := hv
    replace h := q_be h
    obtain ⟨v10, hv, h⟩ := h
    refine ⟨⟨some _, rfl⟩, ⟨_, cu9⟩, ?_⟩
    refine rX12_isPlace hv ?_
    refine And.intro (fun hc11 => ?_) (fun hc11 => ?_)
    · replace h := q_ifp (hc11) h
      exact ps_weak (pjX12_rawAt_112_58 h hh he) ⟨rfl, rfl, rfl, rfl, rfl, rfl, rfl, rfl, trivial⟩
    · replace h := q_ifn (hc11) h
      refine rX12_rawPart rfl ?_
      refine And.intro (fun hc14 => ?_) (fun hc14 => ?_)
      · replace h := q_ifp (hc14) h
        refine sX12_rawAt_91 ?_
        replace h := q_be h
        obtain ⟨v16, hv, h⟩ := h
        replace hv := q_fR_e hv
        obtain ⟨_, cv16, dv16⟩ := hv
        replace h := q_be h
        obtain ⟨a17, ea17, h⟩ := h
        subst ea17
        replace h := q_be h
        obtain ⟨u18, hv, h⟩ := h
        replace hv := q_ob_e hv
        obtain ⟨_, cu18⟩ := hv
        replace h := q_be h
        obtain ⟨v19, hv, h⟩ := h
        refine ⟨⟨some _, rfl⟩, _, _, cv16, dv16, ⟨some _, rfl⟩, ⟨_, cu18⟩, ?_⟩
        refine rX12_at hv ?_
        replace h := q_be h
        obtain ⟨v20, hv, h⟩ := h
        replace hv := q_aI_e hv
        obtain ⟨_, _, cv20, iv20, yv20⟩ := hv
        refine ⟨_, _, cv20, iv20, _, yv20, by decide, by decide, ?_⟩
        exact ps_weak (pjX12_rawAt_112_58 h hh he) ⟨rfl, rfl, rfl, rfl, rfl, rfl, rfl, rfl, trivial⟩
      · replace h := q_ifn (hc14) h
        exact ps_weak (pjX12_rawAt_112_58 h hh he) ⟨rfl, rfl, rfl, rfl, rfl, rfl, rfl, rfl, trivial⟩
noncomputable def bX12_rawAt_44 (g : ps_G) (x0 : Nat) (x2 : Int32) (x3 : Int32) (x4 : Int32) (x5 : Int32) (x6 : Int32) (x7 : Int32) : Option ((Int32 × Int32 × Int32) ⊕ (Int32 × Int32)) := if (x4 + (1 : Int32)) < x7 then (some (.inr (x5, x6))) else (Option.bind (q_lp (fun s => bX12_rawAt_58 g x0 x2 x3 x4 x7 s.1 s.2.1 s.2.2) (x5, x6, x3 - (1 : Int32))) fun s27 => some (.inl (s27.1, s27.2, x7 + (1 : Int32))))
theorem pbX12_rawAt_44 {d : Nat} {Q : ps_Rs → ps_G → Prop} {g : ps_G} {x0 : Nat} {x2 : Int32} {x3 : Int32} {x4 : Int32} {x5 : Int32} {x6 : Int32} {x7 : Int32} {x : (Int32 × Int32 × Int32) ⊕ (Int32 × Int32)} (h : bX12_rawAt_44 g x0 x2 x3 x4 x5 x6 x7 = some x) (hh : ∀ s' : Int32 × Int32 × Int32, x = .inl s' → ps_At mX12_rawAt (d + 1) 44 [(0, .ref x0), (2, .int x2), (3, .int x3), (4, .int x4), (5, .int s'.1), (6, .int s'.2.1), (7, .int s'.2.2)] [] g Q) (he : ∀ r' : Int32 × Int32, x = .inr r' → ps_At mX12_rawAt (d + 1) 124 [(5, .int r'.1), (6, .int r'.2)] [] g Q) : ps_At mX12_rawAt (d + 1) 44 [(0, .ref x0), (2, .int x2), (3, .int x3), (4, .int x4), (5, .int x5), (6, .int x6), (7, .int x7)] [] g Q := by
  unfold bX12_rawAt_44 at h
  refine sX12_rawAt_44 ?_
  refine And.intro (fun hc6 => ?_) (fun hc6 => ?_)
  · replace h := q_ifp (hc6) h
    exact ps_weak (he (x5, x6) (Option.some.inj h).symm) ⟨rfl, rfl, trivial⟩
  · replace h := q_ifn (hc6) h
    refine ⟨by decide, ?_⟩
    replace h := q_be h
    obtain ⟨s27, hl, h⟩ := h
    refine ps_weak (q_lp_ok hl (fun s => ps_At mX12_rawAt (d + 1) 58 [(0, .ref x0), (2, .int x2), (3, .int x3), (4, .int x4), (5, .int s.1), (6, .int s.2.1), (7, .int x7), (8, .int s.2.2)] [] g Q) (fun r => ps_At mX12_rawAt (d + 1) 118 [(0, .ref x0), (2, .int x2), (3, .int x3), (4, .int x4), (5, .int r.1), (6, .int r.2), (7, .int x7)] [] g Q) (fun s x hb hh he => pbX12_rawAt_58 hb hh he) ?_) ⟨rfl, rfl, rfl, rfl, rfl, rfl, rfl, rfl, trivial⟩
    refine (?_ : ps_At mX12_rawAt (d + 1) 118 [(0, .ref x0), (2, .int x2), (3, .int x3), (4, .int x4), (5, .int s27.1), (6, .int s27.2), (7, .int x7)] [] g Q)
    refine sX12_rawAt_118 ?_
    refine ⟨by decide, ?_⟩
    exact ps_weak (hh (s27.1, s27.2, x7 + (1 : Int32)) (Option.some.inj h).symm) ⟨rfl, rfl, rfl, rfl, rfl, rfl, rfl, trivial⟩
noncomputable def jX12_rawAt_143 (g : ps_G) (k0 : Int32) : Option (Int32) := some k0
theorem pjX12_rawAt_143 {d : Nat} {Q : ps_Rs → ps_G → Prop} {g : ps_G} {k0 : Int32} {r : Int32} (h : jX12_rawAt_143 g k0 = some r) (hk : Q (.inl (some (.int r))) g) : ps_At mX12_rawAt (d + 1) 143 [] [.int k0] g Q := by
  unfold jX12_rawAt_143 at h
  refine sX12_rawAt_143 ?_
  cases h
  exact ⟨rfl, hk⟩
noncomputable def fX12_rawAt (g : ps_G) (x0 : Nat) (x1 : Int32) (x2 : Int32) : Option (Int32) := Option.bind (q_fI 12 13 g x0) fun v1 => Option.bind (q_mod x1 v1) fun v2 => Option.bind (q_fI 12 13 g x0) fun v3 => Option.bind (q_div x1 v3) fun v4 => if ¬ (fX12_rawPart v2 v4) = x2 then (Option.bind (q_lp (fun s => bX12_rawAt_44 g x0 x2 v2 v4 s.1 s.2.1 s.2.2) ((0 : Int32), (0 : Int32), v4 - (1 : Int32))) fun s30 => if ¬ s30.2 = 0 then (Option.bind (q_div (s30.1 + (s30.2 / (2 : Int32))) s30.2) fun v33 => jX12_rawAt_143 g v33) else (jX12_rawAt_143 g (0 : Int32))) else (Option.bind (q_fR 12 67 g x0) fun v36 => Option.bind (v36) fun a37 => Option.bind (q_aI g a37 x1) fun v38 => some v38)
theorem rX12_rawAt {d : Nat} {Q : ps_Rs → ps_G → Prop} {g : ps_G} {x0 : Nat} {x1 : Int32} {x2 : Int32} {r : Int32} (h : fX12_rawAt g x0 x1 x2 = some r) (hk : Q (.inl (some (.int r))) g) : ps_Ok mX12_rawAt (d + 1) [.ref x0, .int x1, .int x2] g Q := by
  unfold fX12_rawAt at h
  refine sX12_rawAt_0 ?_
  replace h := q_be h
  obtain ⟨v1, hv, h⟩ := h
  replace hv := q_fI_e hv
  obtain ⟨_, cv1, dv1⟩ := hv
  replace h := q_be h
  obtain ⟨v2, hv, h⟩ := h
  replace hv := q_mod_e hv
  obtain ⟨zv2, yv2⟩ := hv
  replace h := q_be h
  obtain ⟨v3, hv, h⟩ := h
  replace hv := q_fI_e hv
  obtain ⟨_, cv3, dv3⟩ := hv
  replace h := q_be h
  obtain ⟨v4, hv, h⟩ := h
  replace hv := q_div_e hv
  obtain ⟨zv4, yv4⟩ := hv
  refine ⟨⟨some _, rfl⟩, _, _, cv1, dv1, zv2, _, yv2, by decide, ⟨some _, rfl⟩, _, _, cv3, dv3, zv4, _, yv4, by decide, ?_⟩
  refine rX12_rawPart rfl ?_
  refine And.intro (fun hc5 => ?_) (fun hc5 => ?_)
  · replace h := q_ifp (hc5) h
    refine sX12_rawAt_32 ?_
    refine ⟨by decide, by decide, by decide, ?_⟩
    replace h := q_be h
    obtain ⟨s30, hl, h⟩ := h
    refine ps_weak (q_lp_ok hl (fun s => ps_At mX12_rawAt (d + 1) 44 [(0, .ref x0), (2, .int x2), (3, .int v2), (4, .int v4), (5, .int s.1), (6, .int s.2.1), (7, .int s.2.2)] [] g Q) (fun r => ps_At mX12_rawAt (d + 1) 124 [(5, .int r.1), (6, .int r.2)] [] g Q) (fun s x hb hh he => pbX12_rawAt_44 hb hh he) ?_) ⟨rfl, rfl, rfl, rfl, rfl, rfl, rfl, trivial⟩
    refine (?_ : ps_At mX12_rawAt (d + 1) 124 [(5, .int s30.1), (6, .int s30.2)] [] g Q)
    refine sX12_rawAt_124 ?_
    refine And.intro (fun hc31 => ?_) (fun hc31 => ?_)
    · replace h := q_ifp (hc31) h
      refine sX12_rawAt_133 ?_
      replace h := q_be h
      obtain ⟨v33, hv, h⟩ := h
      replace hv := q_div_e hv
      obtain ⟨zv33, yv33⟩ := hv
      refine ⟨by decide, _, rfl, zv33, _, yv33, ?_⟩
      exact ps_weak (pjX12_rawAt_143 h hk) trivial
    · replace h := q_ifn (hc31) h
      exact ps_weak (pjX12_rawAt_143 h hk) trivial
  · replace h := q_ifn (hc5) h
    replace h := q_be h
    obtain ⟨v36, hv, h⟩ := h
    replace hv := q_fR_e hv
    obtain ⟨_, cv36, dv36⟩ := hv
    replace h := q_be h
    obtain ⟨a37, ea37, h⟩ := h
    subst ea37
    replace h := q_be h
    obtain ⟨v38, hv, h⟩ := h
    replace hv := q_aI_e hv
    obtain ⟨_, _, cv38, iv38, yv38⟩ := hv
    cases h
    exact ⟨⟨some _, rfl⟩, _, _, cv36, dv36, _, _, cv38, iv38, _, yv38, rfl, hk⟩
noncomputable def jX12_raw_108_35 (g : ps_G) (x0 : Nat) (x1 : Int32) (x2 : Int32) (k0 : Int32) : Option ((Int32 × ps_G) ⊕ (ps_G)) := Option.bind (q_fR 12 66 g x0) fun v29 => Option.bind (v29) fun a30 => Option.bind (q_fI 12 13 g x0) fun v31 => Option.bind (q_mod x2 v31) fun v32 => Option.bind (q_fI 12 13 g x0) fun v33 => Option.bind (q_div x2 v33) fun v34 => Option.bind (q_aI g a30 ((1 : Int32) + (fX12_rawPart v32 v34))) fun v35 => Option.bind (q_fR 12 67 g x0) fun v36 => Option.bind (v36) fun a37 => Option.bind (q_wI g a37 x2 (if ((k0 * v35) / (64 : Int32)) ≤ (4095 : Int32) then (k0 * v35) / (64 : Int32) else (4095 : Int32))) fun g41 => some (.inl (x2 + (1 : Int32), g41))
theorem pjX12_raw_108_35 {d : Nat} {Q : ps_Rs → ps_G → Prop} {g : ps_G} {x0 : Nat} {x1 : Int32} {x2 : Int32} {k0 : Int32} {x : (Int32 × ps_G) ⊕ (ps_G)} (h : jX12_raw_108_35 g x0 x1 x2 k0 = some x) (hh : ∀ s' : Int32 × ps_G, x = .inl s' → ps_At mX12_raw (d + 4) 35 [(0, .ref x0), (1, .int x1), (2, .int s'.1)] [] s'.2 Q) (he : ∀ r' : ps_G, x = .inr r' → ps_At mX12_raw (d + 4) 168 [(0, .ref x0), (1, .int x1)] [] r' Q) : ps_At mX12_raw (d + 4) 108 [(0, .ref x0), (1, .int x1), (2, .int x2)] [.int k0] g Q := by
  unfold jX12_raw_108_35 at h
  refine sX12_raw_108 ?_
  replace h := q_be h
  obtain ⟨v29, hv, h⟩ := h
  replace hv := q_fR_e hv
  obtain ⟨_, cv29, dv29⟩ := hv
  replace h := q_be h
  obtain ⟨a30, ea30, h⟩ := h
  subst ea30
  replace h := q_be h
  obtain ⟨v31, hv, h⟩ := h
  replace hv := q_fI_e hv
  obtain ⟨_, cv31, dv31⟩ := hv
  replace h := q_be h
  obtain ⟨v32, hv, h⟩ := h
  replace hv := q_mod_e hv
  obtain ⟨zv32, yv32⟩ := hv
  replace h := q_be h
  obtain ⟨v33, hv, h⟩ := h
  replace hv := q_fI_e hv
  obtain ⟨_, cv33, dv33⟩ := hv
  replace h := q_be h
  obtain ⟨v34, hv, h⟩ := h
  replace hv := q_div_e hv
  obtain ⟨zv34, yv34⟩ := hv
  refine ⟨by decide, ⟨some _, rfl⟩, _, _, cv29, dv29, ⟨some _, rfl⟩, _, _, cv31, dv31, zv32, _, yv32, ⟨some _, rfl⟩, _, _, cv33, dv33, zv34, _, yv34, ?_⟩
  refine rX12_rawPart rfl ?_
  replace h := q_be h
  obtain ⟨v35, hv, h⟩ := h
  replace hv := q_aI_e hv
  obtain ⟨_, _, cv35, iv35, yv35⟩ := hv
  replace h := q_be h
  obtain ⟨v36, hv, h⟩ := h
  replace hv := q_fR_e hv
  obtain ⟨_, cv36, dv36⟩ := hv
  replace h := q_be h
  obtain ⟨a37, ea37, h⟩ := h
  subst ea37
  have kJ40 : ∀ w39 : Int32, w39 = (if ((k0 * v35) / (64 : Int32)) ≤ (4095 : Int32) then (k0 * v35) / (64 : Int32) else (4095 : Int32)) → ps_At mX12_raw (d + 4) 161 [(0, .ref x0), (1, .int x1), (2, .int x2)] [.int w39, .int x2, .ref a37] g Q := by
    rintro _ rfl
    refine sX12_raw_161 ?_
    replace h := q_be h
    obtain ⟨g41, hv, h⟩ := h
    replace hv := q_wI_e hv
    obtain ⟨_, _, cg41, pg41, ig41, yg41⟩ := hv
    refine ⟨_, _, cg41, pg41, ig41, _, yg41, by decide, ?_⟩
    exact ps_weak (hh (x2 + (1 : Int32), g41) (Option.some.inj h).symm) ⟨rfl, rfl, rfl, trivial⟩
  refine ⟨_, _, cv35, iv35, _, yv35, by decide, _, rfl, by decide, ⟨some _, rfl⟩, _, _, cv36, dv36, ?_⟩
  refine And.intro (fun hc38 => ?_) (fun hc38 => ?_)
  · refine sX12_raw_159 ?_
    exact ps_weak (kJ40 _ (if_pos (hc38)).symm) ⟨rfl, rfl, rfl, trivial⟩
  · exact ps_weak (kJ40 _ (if_neg (hc38)).symm) ⟨rfl, rfl, rfl, trivial⟩
noncomputable def jX12_raw_85_35 (g : ps_G) (x0 : Nat) (x1 : Int32) (x2 : Int32) (x3 : Int32) : Option ((Int32 × ps_G) ⊕ (ps_G)) := Option.bind (q_fR 12 66 g x0) fun v21 => Option.bind (v21) fun a22 => Option.bind (q_aI g a22 (0 : Int32)) fun v23 => if 0 ≤ (x3 - v23) then (Option.bind (q_fR 12 66 g x0) fun v26 => Option.bind (v26) fun a27 => Option.bind (q_aI g a27 (0 : Int32)) fun v28 => jX12_raw_108_35 g x0 x1 x2 (x3 - v28)) else (jX12_raw_108_35 g x0 x1 x2 (0 : Int32))
theorem pjX12_raw_85_35 {d : Nat} {Q : ps_Rs → ps_G → Prop} {g : ps_G} {x0 : Nat} {x1 : Int32} {x2 : Int32} {x3 : Int32} {x : (Int32 × ps_G) ⊕ (ps_G)} (h : jX12_raw_85_35 g x0 x1 x2 x3 = some x) (hh : ∀ s' : Int32 × ps_G, x = .inl s' → ps_At mX12_raw (d + 4) 35 [(0, .ref x0), (1, .int x1), (2, .int s'.1)] [] s'.2 Q) (he : ∀ r' : ps_G, x = .inr r' → ps_At mX12_raw (d + 4) 168 [(0, .ref x0), (1, .int x1)] [] r' Q) : ps_At mX12_raw (d + 4) 85 [(0, .ref x0), (1, .int x1), (2, .int x2), (3, .int x3)] [] g Q := by
  unfold jX12_raw_85_35 at h
  refine sX12_raw_85 ?_
  replace h := q_be h
  obtain ⟨v21, hv, h⟩ := h
  replace hv := q_fR_e hv
  obtain ⟨_, cv21, dv21⟩ := hv
  replace h := q_be h
  obtain ⟨a22, ea22, h⟩ := h
  subst ea22
  replace h := q_be h
  obtain ⟨v23, hv, h⟩ := h
  replace hv := q_aI_e hv
  obtain ⟨_, _, cv23, iv23, yv23⟩ := hv
  refine ⟨⟨some _, rfl⟩, _, _, cv21, dv21, _, _, cv23, iv23, _, yv23, ?_⟩
  refine And.intro (fun hc24 => ?_) (fun hc24 => ?_)
  · replace h := q_ifp (hc24) h
    refine sX12_raw_100 ?_
    replace h := q_be h
    obtain ⟨v26, hv, h⟩ := h
    replace hv := q_fR_e hv
    obtain ⟨_, cv26, dv26⟩ := hv
    replace h := q_be h
    obtain ⟨a27, ea27, h⟩ := h
    subst ea27
    replace h := q_be h
    obtain ⟨v28, hv, h⟩ := h
    replace hv := q_aI_e hv
    obtain ⟨_, _, cv28, iv28, yv28⟩ := hv
    refine ⟨⟨some _, rfl⟩, _, _, cv26, dv26, _, _, cv28, iv28, _, yv28, ?_⟩
    exact ps_weak (pjX12_raw_108_35 h hh he) ⟨rfl, rfl, rfl, trivial⟩
  · replace h := q_ifn (hc24) h
    exact ps_weak (pjX12_raw_108_35 h hh he) ⟨rfl, rfl, rfl, trivial⟩
noncomputable def bX12_raw_35 (x0 : Nat) (x1 : Int32) (x2 : Int32) (g : ps_G) : Option ((Int32 × ps_G) ⊕ (ps_G)) := if x1 ≤ x2 then (some (.inr g)) else (Option.bind (q_fI 12 4 g x0) fun v10 => if ¬ v10 = 0 then (some (.inr g)) else (Option.bind (q_fR 12 1 g x0) fun v13 => Option.bind (v13) fun a14 => Option.bind (q_aI g a14 ((2 : Int32) * x2)) fun v15 => Option.bind (q_fR 12 1 g x0) fun v16 => Option.bind (v16) fun a17 => Option.bind (q_aI g a17 (((2 : Int32) * x2) + (1 : Int32))) fun v18 => if ((q_shl v15 (8 : Int32)) ||| v18) ≤ (4095 : Int32) then (jX12_raw_85_35 g x0 x1 x2 ((q_shl v15 (8 : Int32)) ||| v18)) else (Option.bind (q_ob 12 g x0) fun u44 => Option.bind (fX12_wrong g x0 (2 : Int32) ((2 : Int32) * x2)) fun v45 => jX12_raw_85_35 v45 x0 x1 x2 ((q_shl v15 (8 : Int32)) ||| v18))))
theorem pbX12_raw_35 {d : Nat} {Q : ps_Rs → ps_G → Prop}  {x0 : Nat} {x1 : Int32} {x2 : Int32} {g : ps_G} {x : (Int32 × ps_G) ⊕ (ps_G)} (h : bX12_raw_35 x0 x1 x2 g = some x) (hh : ∀ s' : Int32 × ps_G, x = .inl s' → ps_At mX12_raw (d + 4) 35 [(0, .ref x0), (1, .int x1), (2, .int s'.1)] [] s'.2 Q) (he : ∀ r' : ps_G, x = .inr r' → ps_At mX12_raw (d + 4) 168 [(0, .ref x0), (1, .int x1)] [] r' Q) : ps_At mX12_raw (d + 4) 35 [(0, .ref x0), (1, .int x1), (2, .int x2)] [] g Q := by
  unfold bX12_raw_35 at h
  refine sX12_raw_35 ?_
  refine And.intro (fun hc8 => ?_) (fun hc8 => ?_)
  · replace h := q_ifp (hc8) h
    exact ps_weak (he g (Option.some.inj h).symm) ⟨rfl, rfl, trivial⟩
  · replace h := q_ifn (hc8) h
    replace h := q_be h
    obtain ⟨v10, hv, h⟩ := h
    replace hv := q_fI_e hv
    obtain ⟨_, cv10, dv10⟩ := hv
    refine ⟨⟨some _, rfl⟩, _, _, cv10, dv10, ?_⟩
    refine And.intro (fun hc11 => ?_) (fun hc11 => ?_)
    · replace h := q_ifp (hc11) h
      exact ps_weak (he g (Option.some.inj h).symm) ⟨rfl, rfl, trivial⟩
    · replace h := q_ifn (hc11) h
      replace h := q_be h
      obtain ⟨v13, hv, h⟩ := h
      replace hv := q_fR_e hv
      obtain ⟨_, cv13, dv13⟩ := hv
      replace h := q_be h
      obtain ⟨a14, ea14, h⟩ := h
      subst ea14
      replace h := q_be h
      obtain ⟨v15, hv, h⟩ := h
      replace hv := q_aI_e hv
      obtain ⟨_, _, cv15, iv15, yv15⟩ := hv
      replace h := q_be h
      obtain ⟨v16, hv, h⟩ := h
      replace hv := q_fR_e hv
      obtain ⟨_, cv16, dv16⟩ := hv
      replace h := q_be h
      obtain ⟨a17, ea17, h⟩ := h
      subst ea17
      replace h := q_be h
      obtain ⟨v18, hv, h⟩ := h
      replace hv := q_aI_e hv
      obtain ⟨_, _, cv18, iv18, yv18⟩ := hv
      refine ⟨⟨some _, rfl⟩, _, _, cv13, dv13, _, _, cv15, iv15, _, yv15, ⟨some _, rfl⟩, _, _, cv16, dv16, _, _, cv18, iv18, _, yv18, by decide, ?_⟩
      refine And.intro (fun hc19 => ?_) (fun hc19 => ?_)
      · replace h := q_ifp (hc19) h
        exact ps_weak (pjX12_raw_85_35 h hh he) ⟨rfl, rfl, rfl, rfl, trivial⟩
      · replace h := q_ifn (hc19) h
        replace h := q_be h
        obtain ⟨u44, hv, h⟩ := h
        replace hv := q_ob_e hv
        obtain ⟨_, cu44⟩ := hv
        replace h := q_be h
        obtain ⟨v45, hv, h⟩ := h
        refine ⟨⟨some _, rfl⟩, ⟨_, cu44⟩, ?_⟩
        refine rX12_wrong hv ?_
        exact ps_weak (pjX12_raw_85_35 h hh he) ⟨rfl, rfl, rfl, rfl, trivial⟩
noncomputable def bX12_raw_205 (x0 : Nat) (x1 : Int32) (x2 : Int32) (x3 : Int32) (g : ps_G) : Option ((Int32 × ps_G) ⊕ (ps_G)) := if x1 ≤ x3 then (some (.inr g)) else (Option.bind (q_ob 12 g x0) fun u66 => Option.bind (fX12_rawAt g x0 x3 (0 : Int32)) fun v67 => Option.bind (q_ob 12 g x0) fun u68 => Option.bind (fX12_rawAt g x0 x3 (1 : Int32)) fun v69 => Option.bind (q_ob 12 g x0) fun u70 => Option.bind (fX12_rawAt g x0 x3 (2 : Int32)) fun v71 => Option.bind (q_ob 12 g x0) fun u72 => Option.bind (fX12_put g x0 x2 ((17 : Int32) + x3) (fX12_colour (q_shr v67 (4 : Int32)) (q_shr v69 (4 : Int32)) (q_shr v71 (4 : Int32)) (255 : Int32))) fun v73 => some (.inl (x3 + (1 : Int32), v73)))
theorem pbX12_raw_205 {d : Nat} {Q : ps_Rs → ps_G → Prop}  {x0 : Nat} {x1 : Int32} {x2 : Int32} {x3 : Int32} {g : ps_G} {x : (Int32 × ps_G) ⊕ (ps_G)} (h : bX12_raw_205 x0 x1 x2 x3 g = some x) (hh : ∀ s' : Int32 × ps_G, x = .inl s' → ps_At mX12_raw (d + 4) 205 [(0, .ref x0), (1, .int x1), (2, .int x2), (3, .int s'.1)] [] s'.2 Q) (he : ∀ r' : ps_G, x = .inr r' → ps_At mX12_raw (d + 4) 255 [(0, .ref x0), (2, .int x2)] [] r' Q) : ps_At mX12_raw (d + 4) 205 [(0, .ref x0), (1, .int x1), (2, .int x2), (3, .int x3)] [] g Q := by
  unfold bX12_raw_205 at h
  refine sX12_raw_205 ?_
  refine And.intro (fun hc64 => ?_) (fun hc64 => ?_)
  · replace h := q_ifp (hc64) h
    exact ps_weak (he g (Option.some.inj h).symm) ⟨rfl, rfl, trivial⟩
  · replace h := q_ifn (hc64) h
    replace h := q_be h
    obtain ⟨u66, hv, h⟩ := h
    replace hv := q_ob_e hv
    obtain ⟨_, cu66⟩ := hv
    replace h := q_be h
    obtain ⟨v67, hv, h⟩ := h
    refine ⟨⟨some _, rfl⟩, ⟨some _, rfl⟩, ⟨_, cu66⟩, ?_⟩
    refine rX12_rawAt hv ?_
    replace h := q_be h
    obtain ⟨u68, hv, h⟩ := h
    replace hv := q_ob_e hv
    obtain ⟨_, cu68⟩ := hv
    replace h := q_be h
    obtain ⟨v69, hv, h⟩ := h
    refine ⟨⟨some _, rfl⟩, ⟨_, cu68⟩, ?_⟩
    refine rX12_rawAt hv ?_
    replace h := q_be h
    obtain ⟨u70, hv, h⟩ := h
    replace hv := q_ob_e hv
    obtain ⟨_, cu70⟩ := hv
    replace h := q_be h
    obtain ⟨v71, hv, h⟩ := h
    refine ⟨⟨some _, rfl⟩, ⟨_, cu70⟩, ?_⟩
    refine rX12_rawAt hv ?_
    refine rX12_colour rfl ?_
    replace h := q_be h
    obtain ⟨u72, hv, h⟩ := h
    replace hv := q_ob_e hv
    obtain ⟨_, cu72⟩ := hv
    replace h := q_be h
    obtain ⟨v73, hv, h⟩ := h
    refine ⟨⟨_, cu72⟩, ?_⟩
    refine rX12_put hv ?_
    refine ⟨by decide, ?_⟩
    exact ps_weak (hh (x3 + (1 : Int32), v73) (Option.some.inj h).symm) ⟨rfl, rfl, rfl, rfl, trivial⟩
noncomputable def jX12_raw_168 (g : ps_G) (x0 : Nat) (x1 : Int32) : Option (Int32 × ps_G) := Option.bind (q_ob 12 g x0) fun u53 => q_b2 (fX12_full g x0) fun v54 g55 => if v54 = 0 then (Option.bind (q_fI 12 4 g55 x0) fun v57 => if v57 ≤ 0 then (Option.bind (q_ob 12 g55 x0) fun u59 => Option.bind (fX12_many g55 x0 (-1 : Int32)) fun v60 => Option.bind (q_ob 12 g55 x0) fun u61 => q_b2 (fX12_newLayer g55 x0 (0 : Int32) (-1 : Int32) v60) fun v62 g63 => Option.bind (q_lp (fun s => bX12_raw_205 x0 x1 v62 s.1 s.2) ((0 : Int32), g63)) fun s76 => Option.bind (q_ob 12 s76 x0) fun u77 => Option.bind (fX12_edited s76 x0) fun v78 => Option.bind (q_ob 12 v78 x0) fun u79 => Option.bind (fX12_forget v78 x0) fun v80 => some (v62, v80)) else (Option.bind (q_sI 12 0 g55 x0 (2 : Int32)) fun g81 => some ((0 : Int32), g81))) else (some ((0 : Int32), g55))
theorem pjX12_raw_168 {d : Nat} {Q : ps_Rs → ps_G → Prop} {g : ps_G} {x0 : Nat} {x1 : Int32} {r : Int32 × ps_G} (h : jX12_raw_168 g x0 x1 = some r) (hk : Q (.inl (some (.int r.1))) r.2) : ps_At mX12_raw (d + 4) 168 [(0, .ref x0), (1, .int x1)] [] g Q := by
  unfold jX12_raw_168 at h
  refine sX12_raw_168 ?_
  replace h := q_be h
  obtain ⟨u53, hv, h⟩ := h
  replace hv := q_ob_e hv
  obtain ⟨_, cu53⟩ := hv
  replace h := q_b2_e h
  obtain ⟨v54, g55, hv, h⟩ := h
  refine ⟨⟨some _, rfl⟩, ⟨_, cu53⟩, ?_⟩
  refine rX12_full hv ?_
  refine And.intro (fun hc56 => ?_) (fun hc56 => ?_)
  · replace h := q_ifp (hc56) h
    refine sX12_raw_177 ?_
    replace h := q_be h
    obtain ⟨v57, hv, h⟩ := h
    replace hv := q_fI_e hv
    obtain ⟨_, cv57, dv57⟩ := hv
    refine ⟨⟨some _, rfl⟩, _, _, cv57, dv57, ?_⟩
    refine And.intro (fun hc58 => ?_) (fun hc58 => ?_)
    · replace h := q_ifp (hc58) h
      refine sX12_raw_191 ?_
      replace h := q_be h
      obtain ⟨u59, hv, h⟩ := h
      replace hv := q_ob_e hv
      obtain ⟨_, cu59⟩ := hv
      replace h := q_be h
      obtain ⟨v60, hv, h⟩ := h
      refine ⟨⟨some _, rfl⟩, ⟨some _, rfl⟩, ⟨_, cu59⟩, ?_⟩
      refine rX12_many hv ?_
      replace h := q_be h
      obtain ⟨u61, hv, h⟩ := h
      replace hv := q_ob_e hv
      obtain ⟨_, cu61⟩ := hv
      replace h := q_b2_e h
      obtain ⟨v62, g63, hv, h⟩ := h
      refine ⟨⟨_, cu61⟩, ?_⟩
      refine rX12_newLayer hv ?_
      refine ⟨by decide, by decide, ?_⟩
      replace h := q_be h
      obtain ⟨s76, hl, h⟩ := h
      refine ps_weak (q_lp_ok hl (fun s => ps_At mX12_raw (d + 4) 205 [(0, .ref x0), (1, .int x1), (2, .int v62), (3, .int s.1)] [] s.2 Q) (fun r => ps_At mX12_raw (d + 4) 255 [(0, .ref x0), (2, .int v62)] [] r Q) (fun s x hb hh he => pbX12_raw_205 hb hh he) ?_) ⟨rfl, rfl, rfl, rfl, trivial⟩
      refine (?_ : ps_At mX12_raw (d + 4) 255 [(0, .ref x0), (2, .int v62)] [] s76 Q)
      refine sX12_raw_255 ?_
      replace h := q_be h
      obtain ⟨u77, hv, h⟩ := h
      replace hv := q_ob_e hv
      obtain ⟨_, cu77⟩ := hv
      replace h := q_be h
      obtain ⟨v78, hv, h⟩ := h
      refine ⟨⟨some _, rfl⟩, ⟨_, cu77⟩, ?_⟩
      refine rX12_edited hv ?_
      replace h := q_be h
      obtain ⟨u79, hv, h⟩ := h
      replace hv := q_ob_e hv
      obtain ⟨_, cu79⟩ := hv
      replace h := q_be h
      obtain ⟨v80, hv, h⟩ := h
      refine ⟨⟨some _, rfl⟩, ⟨_, cu79⟩, ?_⟩
      refine rX12_forget hv ?_
      cases h
      exact ⟨rfl, hk⟩
    · replace h := q_ifn (hc58) h
      replace h := q_be h
      obtain ⟨g81, hv, h⟩ := h
      replace hv := q_sI_e hv
      obtain ⟨_, cg81, dg81, yg81⟩ := hv
      cases h
      exact ⟨⟨some _, rfl⟩, _, cg81, dg81, rfl, rfl, _, yg81, rfl, hk⟩
  · replace h := q_ifn (hc56) h
    cases h
    exact ⟨rfl, hk⟩
noncomputable def jX12_raw_33 (g : ps_G) (x0 : Nat) (x1 : Int32) : Option (Int32 × ps_G) := Option.bind (q_lp (fun s => bX12_raw_35 x0 x1 s.1 s.2) ((0 : Int32), g)) fun s52 => jX12_raw_168 s52 x0 x1
theorem pjX12_raw_33 {d : Nat} {Q : ps_Rs → ps_G → Prop} {g : ps_G} {x0 : Nat} {x1 : Int32} {r : Int32 × ps_G} (h : jX12_raw_33 g x0 x1 = some r) (hk : Q (.inl (some (.int r.1))) r.2) : ps_At mX12_raw (d + 4) 33 [(0, .ref x0), (1, .int x1)] [] g Q := by
  unfold jX12_raw_33 at h
  refine sX12_raw_33 ?_
  refine ⟨by decide, ?_⟩
  replace h := q_be h
  obtain ⟨s52, hl, h⟩ := h
  refine ps_weak (q_lp_ok hl (fun s => ps_At mX12_raw (d + 4) 35 [(0, .ref x0), (1, .int x1), (2, .int s.1)] [] s.2 Q) (fun r => ps_At mX12_raw (d + 4) 168 [(0, .ref x0), (1, .int x1)] [] r Q) (fun s x hb hh he => pbX12_raw_35 hb hh he) ?_) ⟨rfl, rfl, rfl, trivial⟩
  refine (?_ : ps_At mX12_raw (d + 4) 168 [(0, .ref x0), (1, .int x1)] [] s52 Q)
  exact ps_weak (pjX12_raw_168 h hk) ⟨rfl, rfl, trivial⟩
noncomputable def fX12_raw (g : ps_G) (x0 : Nat) : Option (Int32 × ps_G) := Option.bind (q_ob 12 g x0) fun u1 => Option.bind (fX12_takeInput g x0) fun v2 => Option.bind (q_fI 12 13 v2 x0) fun v3 => Option.bind (q_fI 12 14 v2 x0) fun v4 => Option.bind (q_fI 12 3 v2 x0) fun v5 => if v5 = ((2 : Int32) * (v3 * v4)) then (jX12_raw_33 v2 x0 (v3 * v4)) else (Option.bind (q_fI 12 3 v2 x0) fun v86 => Option.bind (q_ob 12 v2 x0) fun u87 => Option.bind (fX12_wrong v2 x0 (1 : Int32) v86) fun v88 => jX12_raw_33 v88 x0 (v3 * v4))
theorem rX12_raw {d : Nat} {Q : ps_Rs → ps_G → Prop} {g : ps_G} {x0 : Nat} {r : Int32 × ps_G} (h : fX12_raw g x0 = some r) (hk : Q (.inl (some (.int r.1))) r.2) : ps_Ok mX12_raw (d + 4) [.ref x0] g Q := by
  unfold fX12_raw at h
  refine sX12_raw_0 ?_
  replace h := q_be h
  obtain ⟨u1, hv, h⟩ := h
  replace hv := q_ob_e hv
  obtain ⟨_, cu1⟩ := hv
  replace h := q_be h
  obtain ⟨v2, hv, h⟩ := h
  refine ⟨⟨some _, rfl⟩, ⟨_, cu1⟩, ?_⟩
  refine rX12_takeInput hv ?_
  replace h := q_be h
  obtain ⟨v3, hv, h⟩ := h
  replace hv := q_fI_e hv
  obtain ⟨_, cv3, dv3⟩ := hv
  replace h := q_be h
  obtain ⟨v4, hv, h⟩ := h
  replace hv := q_fI_e hv
  obtain ⟨_, cv4, dv4⟩ := hv
  replace h := q_be h
  obtain ⟨v5, hv, h⟩ := h
  replace hv := q_fI_e hv
  obtain ⟨_, cv5, dv5⟩ := hv
  refine ⟨⟨some _, rfl⟩, _, _, cv3, dv3, ⟨some _, rfl⟩, _, _, cv4, dv4, by decide, ⟨some _, rfl⟩, _, _, cv5, dv5, ?_⟩
  refine And.intro (fun hc6 => ?_) (fun hc6 => ?_)
  · replace h := q_ifp (hc6) h
    exact ps_weak (pjX12_raw_33 h hk) ⟨rfl, rfl, trivial⟩
  · replace h := q_ifn (hc6) h
    replace h := q_be h
    obtain ⟨v86, hv, h⟩ := h
    replace hv := q_fI_e hv
    obtain ⟨_, cv86, dv86⟩ := hv
    replace h := q_be h
    obtain ⟨u87, hv, h⟩ := h
    replace hv := q_ob_e hv
    obtain ⟨_, cu87⟩ := hv
    replace h := q_be h
    obtain ⟨v88, hv, h⟩ := h
    refine ⟨⟨some _, rfl⟩, ⟨some _, rfl⟩, _, _, cv86, dv86, ⟨_, cu87⟩, ?_⟩
    refine rX12_wrong hv ?_
    exact ps_weak (pjX12_raw_33 h hk) ⟨rfl, rfl, trivial⟩
noncomputable def fX12_outByte (g : ps_G) (x0 : Nat) (x1 : Int32) : Option (ps_G) := Option.bind (q_fR 12 6 g x0) fun v1 => Option.bind (v1) fun a2 => Option.bind (q_fI 12 7 g x0) fun v3 => Option.bind (q_wI g a2 v3 (x1 &&& (255 : Int32))) fun g4 => Option.bind (q_fI 12 7 g4 x0) fun v5 => Option.bind (q_sI 12 7 g4 x0 (v5 + (1 : Int32))) fun g6 => some g6
theorem rX12_outByte {d : Nat} {Q : ps_Rs → ps_G → Prop} {g : ps_G} {x0 : Nat} {x1 : Int32} {r : ps_G} (h : fX12_outByte g x0 x1 = some r) (hk : Q (.inl none) r) : ps_Ok mX12_outByte d [.ref x0, .int x1] g Q := by
  unfold fX12_outByte at h
  refine sX12_outByte_0 ?_
  replace h := q_be h
  obtain ⟨v1, hv, h⟩ := h
  replace hv := q_fR_e hv
  obtain ⟨_, cv1, dv1⟩ := hv
  replace h := q_be h
  obtain ⟨a2, ea2, h⟩ := h
  subst ea2
  replace h := q_be h
  obtain ⟨v3, hv, h⟩ := h
  replace hv := q_fI_e hv
  obtain ⟨_, cv3, dv3⟩ := hv
  replace h := q_be h
  obtain ⟨g4, hv, h⟩ := h
  replace hv := q_wI_e hv
  obtain ⟨_, _, cg4, pg4, ig4, yg4⟩ := hv
  replace h := q_be h
  obtain ⟨v5, hv, h⟩ := h
  replace hv := q_fI_e hv
  obtain ⟨_, cv5, dv5⟩ := hv
  replace h := q_be h
  obtain ⟨g6, hv, h⟩ := h
  replace hv := q_sI_e hv
  obtain ⟨_, cg6, dg6, yg6⟩ := hv
  cases h
  exact ⟨⟨some _, rfl⟩, _, _, cv1, dv1, ⟨some _, rfl⟩, _, _, cv3, dv3, _, _, cg4, pg4, ig4, _, yg4, ⟨some _, rfl⟩, rfl, _, _, cv5, dv5, _, cg6, dg6, rfl, rfl, _, yg6, rfl, rfl, hk⟩
noncomputable def bX12_outWord_3 (x0 : Nat) (x1 : Int32) (x2 : Int32) (g : ps_G) : Option ((Int32 × ps_G) ⊕ (ps_G)) := if x2 < 0 then (some (.inr g)) else (Option.bind (q_ob 12 g x0) fun u3 => Option.bind (fX12_outByte g x0 (q_shr x1 x2)) fun v4 => some (.inl (x2 + (-8 : Int32), v4)))
theorem pbX12_outWord_3 {d : Nat} {Q : ps_Rs → ps_G → Prop}  {x0 : Nat} {x1 : Int32} {x2 : Int32} {g : ps_G} {x : (Int32 × ps_G) ⊕ (ps_G)} (h : bX12_outWord_3 x0 x1 x2 g = some x) (hh : ∀ s' : Int32 × ps_G, x = .inl s' → ps_At mX12_outWord (d + 1) 3 [(0, .ref x0), (1, .int x1), (2, .int s'.1)] [] s'.2 Q) (he : ∀ r' : ps_G, x = .inr r' → ps_At mX12_outWord (d + 1) 20 [] [] r' Q) : ps_At mX12_outWord (d + 1) 3 [(0, .ref x0), (1, .int x1), (2, .int x2)] [] g Q := by
  unfold bX12_outWord_3 at h
  refine sX12_outWord_3 ?_
  refine And.intro (fun hc1 => ?_) (fun hc1 => ?_)
  · replace h := q_ifp (hc1) h
    exact ps_weak (he g (Option.some.inj h).symm) trivial
  · replace h := q_ifn (hc1) h
    replace h := q_be h
    obtain ⟨u3, hv, h⟩ := h
    replace hv := q_ob_e hv
    obtain ⟨_, cu3⟩ := hv
    replace h := q_be h
    obtain ⟨v4, hv, h⟩ := h
    refine ⟨⟨some _, rfl⟩, ⟨_, cu3⟩, ?_⟩
    refine rX12_outByte hv ?_
    refine ⟨by decide, ?_⟩
    exact ps_weak (hh (x2 + (-8 : Int32), v4) (Option.some.inj h).symm) ⟨rfl, rfl, rfl, trivial⟩
noncomputable def fX12_outWord (g : ps_G) (x0 : Nat) (x1 : Int32) : Option (ps_G) := Option.bind (q_lp (fun s => bX12_outWord_3 x0 x1 s.1 s.2) ((24 : Int32), g)) fun s7 => some s7
theorem rX12_outWord {d : Nat} {Q : ps_Rs → ps_G → Prop} {g : ps_G} {x0 : Nat} {x1 : Int32} {r : ps_G} (h : fX12_outWord g x0 x1 = some r) (hk : Q (.inl none) r) : ps_Ok mX12_outWord (d + 1) [.ref x0, .int x1] g Q := by
  unfold fX12_outWord at h
  refine sX12_outWord_0 ?_
  refine ⟨by decide, ?_⟩
  replace h := q_be h
  obtain ⟨s7, hl, h⟩ := h
  refine ps_weak (q_lp_ok hl (fun s => ps_At mX12_outWord (d + 1) 3 [(0, .ref x0), (1, .int x1), (2, .int s.1)] [] s.2 Q) (fun r => ps_At mX12_outWord (d + 1) 20 [] [] r Q) (fun s x hb hh he => pbX12_outWord_3 hb hh he) ?_) ⟨rfl, rfl, rfl, trivial⟩
  refine (?_ : ps_At mX12_outWord (d + 1) 20 [] [] s7 Q)
  refine sX12_outWord_20 ?_
  cases h
  exact ⟨rfl, rfl, hk⟩
noncomputable def fX12_openChunk (g : ps_G) (x0 : Nat) (x1 : Int32) : Option (ps_G) := Option.bind (q_fI 12 7 g x0) fun v1 => Option.bind (q_sI 12 73 g x0 v1) fun g2 => Option.bind (q_ob 12 g2 x0) fun u3 => Option.bind (fX12_outWord g2 x0 (0 : Int32)) fun v4 => Option.bind (q_ob 12 v4 x0) fun u5 => Option.bind (fX12_outWord v4 x0 x1) fun v6 => some v6
theorem rX12_openChunk {d : Nat} {Q : ps_Rs → ps_G → Prop} {g : ps_G} {x0 : Nat} {x1 : Int32} {r : ps_G} (h : fX12_openChunk g x0 x1 = some r) (hk : Q (.inl none) r) : ps_Ok mX12_openChunk (d + 2) [.ref x0, .int x1] g Q := by
  unfold fX12_openChunk at h
  refine sX12_openChunk_0 ?_
  replace h := q_be h
  obtain ⟨v1, hv, h⟩ := h
  replace hv := q_fI_e hv
  obtain ⟨_, cv1, dv1⟩ := hv
  replace h := q_be h
  obtain ⟨g2, hv, h⟩ := h
  replace hv := q_sI_e hv
  obtain ⟨_, cg2, dg2, yg2⟩ := hv
  replace h := q_be h
  obtain ⟨u3, hv, h⟩ := h
  replace hv := q_ob_e hv
  obtain ⟨_, cu3⟩ := hv
  replace h := q_be h
  obtain ⟨v4, hv, h⟩ := h
  refine ⟨⟨some _, rfl⟩, ⟨some _, rfl⟩, _, _, cv1, dv1, _, cg2, dg2, rfl, rfl, _, yg2, ⟨some _, rfl⟩, ⟨_, cu3⟩, ?_⟩
  refine rX12_outWord hv ?_
  replace h := q_be h
  obtain ⟨u5, hv, h⟩ := h
  replace hv := q_ob_e hv
  obtain ⟨_, cu5⟩ := hv
  replace h := q_be h
  obtain ⟨v6, hv, h⟩ := h
  refine ⟨⟨some _, rfl⟩, ⟨_, cu5⟩, ?_⟩
  refine rX12_outWord hv ?_
  cases h
  exact ⟨rfl, rfl, hk⟩
noncomputable def bX12_checked_6 (g : ps_G) (x2 : Int32) (x3 : Int32) : Option ((Int32 × Int32) ⊕ (Int32)) := if (8 : Int32) ≤ x3 then (some (.inr x2)) else (some (.inl ((if ¬ (x2 &&& (1 : Int32)) = (1 : Int32) then q_ush x2 (1 : Int32) else (q_ush x2 (1 : Int32)) ^^^ (-306674912 : Int32)), x3 + (1 : Int32))))
theorem pbX12_checked_6 {d : Nat} {Q : ps_Rs → ps_G → Prop} {g : ps_G} {x2 : Int32} {x3 : Int32} {x : (Int32 × Int32) ⊕ (Int32)} (h : bX12_checked_6 g x2 x3 = some x) (hh : ∀ s' : Int32 × Int32, x = .inl s' → ps_At mX12_checked d 6 [(2, .int s'.1), (3, .int s'.2)] [] g Q) (he : ∀ r' : Int32, x = .inr r' → ps_At mX12_checked d 39 [(2, .int r')] [] g Q) : ps_At mX12_checked d 6 [(2, .int x2), (3, .int x3)] [] g Q := by
  unfold bX12_checked_6 at h
  refine sX12_checked_6 ?_
  refine And.intro (fun hc1 => ?_) (fun hc1 => ?_)
  · replace h := q_ifp (hc1) h
    exact ps_weak (he x2 (Option.some.inj h).symm) ⟨rfl, trivial⟩
  · replace h := q_ifn (hc1) h
    have kJ7 : ∀ w6 : Int32, w6 = (if ¬ (x2 &&& (1 : Int32)) = (1 : Int32) then q_ush x2 (1 : Int32) else (q_ush x2 (1 : Int32)) ^^^ (-306674912 : Int32)) → ps_At mX12_checked d 32 [(3, .int x3)] [.int w6] g Q := by
      rintro _ rfl
      refine sX12_checked_32 ?_
      refine ⟨by decide, by decide, ?_⟩
      exact ps_weak (hh ((if ¬ (x2 &&& (1 : Int32)) = (1 : Int32) then q_ush x2 (1 : Int32) else (q_ush x2 (1 : Int32)) ^^^ (-306674912 : Int32)), x3 + (1 : Int32)) (Option.some.inj h).symm) ⟨rfl, rfl, trivial⟩
    refine And.intro (fun hc5 => ?_) (fun hc5 => ?_)
    · refine sX12_checked_29 ?_
      exact ps_weak (kJ7 _ (if_pos (hc5)).symm) ⟨rfl, trivial⟩
    · exact ps_weak (kJ7 _ (if_neg (hc5)).symm) ⟨rfl, trivial⟩
noncomputable def fX12_checked (g : ps_G) (x0 : Int32) (x1 : Int32) : Option (Int32) := Option.bind (q_lp (fun s => bX12_checked_6 g s.1 s.2) (x0 ^^^ x1, (0 : Int32))) fun s10 => some s10
theorem rX12_checked {d : Nat} {Q : ps_Rs → ps_G → Prop} {g : ps_G} {x0 : Int32} {x1 : Int32} {r : Int32} (h : fX12_checked g x0 x1 = some r) (hk : Q (.inl (some (.int r))) g) : ps_Ok mX12_checked d [.int x0, .int x1] g Q := by
  unfold fX12_checked at h
  refine sX12_checked_0 ?_
  refine ⟨by decide, by decide, ?_⟩
  replace h := q_be h
  obtain ⟨s10, hl, h⟩ := h
  refine ps_weak (q_lp_ok hl (fun s => ps_At mX12_checked d 6 [(2, .int s.1), (3, .int s.2)] [] g Q) (fun r => ps_At mX12_checked d 39 [(2, .int r)] [] g Q) (fun s x hb hh he => pbX12_checked_6 hb hh he) ?_) ⟨rfl, rfl, trivial⟩
  refine (?_ : ps_At mX12_checked d 39 [(2, .int s10)] [] g Q)
  refine sX12_checked_39 ?_
  cases h
  exact ⟨rfl, hk⟩
noncomputable def bX12_closeChunk_15 (x0 : Nat) (x1 : Int32) (x2 : Int32) (g : ps_G) : Option ((Int32 × ps_G) ⊕ (ps_G)) := if (4 : Int32) ≤ x2 then (some (.inr g)) else (Option.bind (q_fR 12 6 g x0) fun v5 => Option.bind (v5) fun a6 => Option.bind (q_fI 12 73 g x0) fun v7 => Option.bind (q_wI g a6 (v7 + x2) ((q_shr x1 ((24 : Int32) - ((8 : Int32) * x2))) &&& (255 : Int32))) fun g8 => some (.inl (x2 + (1 : Int32), g8)))
theorem pbX12_closeChunk_15 {d : Nat} {Q : ps_Rs → ps_G → Prop}  {x0 : Nat} {x1 : Int32} {x2 : Int32} {g : ps_G} {x : (Int32 × ps_G) ⊕ (ps_G)} (h : bX12_closeChunk_15 x0 x1 x2 g = some x) (hh : ∀ s' : Int32 × ps_G, x = .inl s' → ps_At mX12_closeChunk (d + 2) 15 [(0, .ref x0), (1, .int x1), (2, .int s'.1)] [] s'.2 Q) (he : ∀ r' : ps_G, x = .inr r' → ps_At mX12_closeChunk (d + 2) 50 [(0, .ref x0)] [] r' Q) : ps_At mX12_closeChunk (d + 2) 15 [(0, .ref x0), (1, .int x1), (2, .int x2)] [] g Q := by
  unfold bX12_closeChunk_15 at h
  refine sX12_closeChunk_15 ?_
  refine And.intro (fun hc3 => ?_) (fun hc3 => ?_)
  · replace h := q_ifp (hc3) h
    exact ps_weak (he g (Option.some.inj h).symm) ⟨rfl, trivial⟩
  · replace h := q_ifn (hc3) h
    replace h := q_be h
    obtain ⟨v5, hv, h⟩ := h
    replace hv := q_fR_e hv
    obtain ⟨_, cv5, dv5⟩ := hv
    replace h := q_be h
    obtain ⟨a6, ea6, h⟩ := h
    subst ea6
    replace h := q_be h
    obtain ⟨v7, hv, h⟩ := h
    replace hv := q_fI_e hv
    obtain ⟨_, cv7, dv7⟩ := hv
    replace h := q_be h
    obtain ⟨g8, hv, h⟩ := h
    replace hv := q_wI_e hv
    obtain ⟨_, _, cg8, pg8, ig8, yg8⟩ := hv
    refine ⟨⟨some _, rfl⟩, _, _, cv5, dv5, ⟨some _, rfl⟩, _, _, cv7, dv7, _, _, cg8, pg8, ig8, _, yg8, by decide, ?_⟩
    exact ps_weak (hh (x2 + (1 : Int32), g8) (Option.some.inj h).symm) ⟨rfl, rfl, rfl, trivial⟩
noncomputable def bX12_closeChunk_59 (g : ps_G) (x0 : Nat) (x2 : Int32) (x3 : Int32) : Option ((Int32 × Int32) ⊕ (Int32)) := Option.bind (q_fI 12 7 g x0) fun v13 => if v13 ≤ x3 then (some (.inr x2)) else (Option.bind (q_fR 12 6 g x0) fun v16 => Option.bind (v16) fun a17 => Option.bind (q_aI g a17 x3) fun v18 => Option.bind (fX12_checked g x2 v18) fun v19 => some (.inl (v19, x3 + (1 : Int32))))
theorem pbX12_closeChunk_59 {d : Nat} {Q : ps_Rs → ps_G → Prop} {g : ps_G} {x0 : Nat} {x2 : Int32} {x3 : Int32} {x : (Int32 × Int32) ⊕ (Int32)} (h : bX12_closeChunk_59 g x0 x2 x3 = some x) (hh : ∀ s' : Int32 × Int32, x = .inl s' → ps_At mX12_closeChunk (d + 2) 59 [(0, .ref x0), (2, .int s'.1), (3, .int s'.2)] [] g Q) (he : ∀ r' : Int32, x = .inr r' → ps_At mX12_closeChunk (d + 2) 84 [(0, .ref x0), (2, .int r')] [] g Q) : ps_At mX12_closeChunk (d + 2) 59 [(0, .ref x0), (2, .int x2), (3, .int x3)] [] g Q := by
  unfold bX12_closeChunk_59 at h
  refine sX12_closeChunk_59 ?_
  replace h := q_be h
  obtain ⟨v13, hv, h⟩ := h
  replace hv := q_fI_e hv
  obtain ⟨_, cv13, dv13⟩ := hv
  refine ⟨⟨some _, rfl⟩, _, _, cv13, dv13, ?_⟩
  refine And.intro (fun hc14 => ?_) (fun hc14 => ?_)
  · replace h := q_ifp (hc14) h
    exact ps_weak (he x2 (Option.some.inj h).symm) ⟨rfl, rfl, trivial⟩
  · replace h := q_ifn (hc14) h
    replace h := q_be h
    obtain ⟨v16, hv, h⟩ := h
    replace hv := q_fR_e hv
    obtain ⟨_, cv16, dv16⟩ := hv
    replace h := q_be h
    obtain ⟨a17, ea17, h⟩ := h
    subst ea17
    replace h := q_be h
    obtain ⟨v18, hv, h⟩ := h
    replace hv := q_aI_e hv
    obtain ⟨_, _, cv18, iv18, yv18⟩ := hv
    replace h := q_be h
    obtain ⟨v19, hv, h⟩ := h
    refine ⟨⟨some _, rfl⟩, _, _, cv16, dv16, _, _, cv18, iv18, _, yv18, ?_⟩
    refine rX12_checked hv ?_
    refine ⟨by decide, by decide, ?_⟩
    exact ps_weak (hh (v19, x3 + (1 : Int32)) (Option.some.inj h).symm) ⟨rfl, rfl, rfl, trivial⟩
noncomputable def fX12_closeChunk (g : ps_G) (x0 : Nat) : Option (ps_G) := Option.bind (q_fI 12 7 g x0) fun v1 => Option.bind (q_fI 12 73 g x0) fun v2 => Option.bind (q_lp (fun s => bX12_closeChunk_15 x0 ((v1 - v2) - (8 : Int32)) s.1 s.2) ((0 : Int32), g)) fun s11 => Option.bind (q_fI 12 73 s11 x0) fun v12 => Option.bind (q_lp (fun s => bX12_closeChunk_59 s11 x0 s.1 s.2) ((-1 : Int32), v12 + (4 : Int32))) fun s22 => Option.bind (q_ob 12 s11 x0) fun u23 => Option.bind (fX12_outWord s11 x0 (s22 ^^^ (-1 : Int32))) fun v24 => some v24
theorem rX12_closeChunk {d : Nat} {Q : ps_Rs → ps_G → Prop} {g : ps_G} {x0 : Nat} {r : ps_G} (h : fX12_closeChunk g x0 = some r) (hk : Q (.inl none) r) : ps_Ok mX12_closeChunk (d + 2) [.ref x0] g Q := by
  unfold fX12_closeChunk at h
  refine sX12_closeChunk_0 ?_
  replace h := q_be h
  obtain ⟨v1, hv, h⟩ := h
  replace hv := q_fI_e hv
  obtain ⟨_, cv1, dv1⟩ := hv
  replace h := q_be h
  obtain ⟨v2, hv, h⟩ := h
  replace hv := q_fI_e hv
  obtain ⟨_, cv2, dv2⟩ := hv
  refine ⟨⟨some _, rfl⟩, _, _, cv1, dv1, ⟨some _, rfl⟩, _, _, cv2, dv2, by decide, by decide, ?_⟩
  replace h := q_be h
  obtain ⟨s11, hl, h⟩ := h
  refine ps_weak (q_lp_ok hl (fun s => ps_At mX12_closeChunk (d + 2) 15 [(0, .ref x0), (1, .int ((v1 - v2) - (8 : Int32))), (2, .int s.1)] [] s.2 Q) (fun r => ps_At mX12_closeChunk (d + 2) 50 [(0, .ref x0)] [] r Q) (fun s x hb hh he => pbX12_closeChunk_15 hb hh he) ?_) ⟨rfl, rfl, rfl, trivial⟩
  refine (?_ : ps_At mX12_closeChunk (d + 2) 50 [(0, .ref x0)] [] s11 Q)
  refine sX12_closeChunk_50 ?_
  replace h := q_be h
  obtain ⟨v12, hv, h⟩ := h
  replace hv := q_fI_e hv
  obtain ⟨_, cv12, dv12⟩ := hv
  refine ⟨by decide, ⟨some _, rfl⟩, _, _, cv12, dv12, by decide, ?_⟩
  replace h := q_be h
  obtain ⟨s22, hl, h⟩ := h
  refine ps_weak (q_lp_ok hl (fun s => ps_At mX12_closeChunk (d + 2) 59 [(0, .ref x0), (2, .int s.1), (3, .int s.2)] [] s11 Q) (fun r => ps_At mX12_closeChunk (d + 2) 84 [(0, .ref x0), (2, .int r)] [] s11 Q) (fun s x hb hh he => pbX12_closeChunk_59 hb hh he) ?_) ⟨rfl, rfl, rfl, trivial⟩
  refine (?_ : ps_At mX12_closeChunk (d + 2) 84 [(0, .ref x0), (2, .int s22)] [] s11 Q)
  refine sX12_closeChunk_84 ?_
  replace h := q_be h
  obtain ⟨u23, hv, h⟩ := h
  replace hv := q_ob_e hv
  obtain ⟨_, cu23⟩ := hv
  replace h := q_be h
  obtain ⟨v24, hv, h⟩ := h
  refine ⟨⟨some _, rfl⟩, ⟨_, cu23⟩, ?_⟩
  refine rX12_outWord hv ?_
  cases h
  exact ⟨rfl, rfl, hk⟩
def fX12_byteOf (x0 : Int32) (x1 : Int32) : Int32 := (if ¬ x1 = (3 : Int32) then (q_shr x0 ((16 : Int32) - ((8 : Int32) * x1))) &&& (255 : Int32) else q_ush x0 (24 : Int32))
theorem rX12_byteOf {d : Nat} {Q : ps_Rs → ps_G → Prop} {g : ps_G} {x0 : Int32} {x1 : Int32} {r : Int32} (h : fX12_byteOf x0 x1 = r) (hk : Q (.inl (some (.int r))) g) : ps_Ok mX12_byteOf d [.int x0, .int x1] g Q := by
  unfold fX12_byteOf at h
  refine sX12_byteOf_0 ?_
  have kJ3 : ∀ w2 : Int32, w2 = (if ¬ x1 = (3 : Int32) then (q_shr x0 ((16 : Int32) - ((8 : Int32) * x1))) &&& (255 : Int32) else q_ush x0 (24 : Int32)) → ps_At mX12_byteOf d 25 [] [.int w2] g Q := by
    rintro _ rfl
    refine sX12_byteOf_25 ?_
    subst h
    exact ⟨rfl, hk⟩
  refine And.intro (fun hc1 => ?_) (fun hc1 => ?_)
  · refine sX12_byteOf_12 ?_
    exact ps_weak (kJ3 _ (if_pos (hc1)).symm) trivial
  · exact ps_weak (kJ3 _ (if_neg (hc1)).symm) trivial
noncomputable def jX12_pixelByte_31 (g : ps_G) (k0 : Int32) : Option (Int32) := some k0
theorem pjX12_pixelByte_31 {d : Nat} {Q : ps_Rs → ps_G → Prop} {g : ps_G} {k0 : Int32} {r : Int32} (h : jX12_pixelByte_31 g k0 = some r) (hk : Q (.inl (some (.int r))) g) : ps_At mX12_pixelByte (d + 1) 31 [] [.int k0] g Q := by
  unfold jX12_pixelByte_31 at h
  refine sX12_pixelByte_31 ?_
  cases h
  exact ⟨rfl, hk⟩
noncomputable def fX12_pixelByte (g : ps_G) (x0 : Nat) (x1 : Int32) (x2 : Int32) : Option (Int32) := if ¬ (x1 < 0) ∧ (0 ≤ x2) then (Option.bind (q_fR 12 35 g x0) fun v4 => Option.bind (v4) fun a5 => Option.bind (q_ob 12 g x0) fun u6 => Option.bind (fX12_at g x0 (x1 / (4 : Int32)) x2) fun v7 => Option.bind (q_aI g a5 v7) fun v8 => jX12_pixelByte_31 g (fX12_byteOf v8 (q_rem x1 (4 : Int32)))) else (jX12_pixelByte_31 g (0 : Int32))
theorem rX12_pixelByte {d : Nat} {Q : ps_Rs → ps_G → Prop} {g : ps_G} {x0 : Nat} {x1 : Int32} {x2 : Int32} {r : Int32} (h : fX12_pixelByte g x0 x1 x2 = some r) (hk : Q (.inl (some (.int r))) g) : ps_Ok mX12_pixelByte (d + 1) [.ref x0, .int x1, .int x2] g Q := by
  unfold fX12_pixelByte at h
  refine sX12_pixelByte_0 ?_
  have kF10 : (jX12_pixelByte_31 g (0 : Int32)) = some r → ps_At mX12_pixelByte (d + 1) 8 [] [] g Q := fun h => by
    refine sX12_pixelByte_8 ?_
    exact ps_weak (pjX12_pixelByte_31 h hk) trivial
  refine And.intro (fun hc1 => ?_) (fun hc1 => ?_)
  · exact ps_weak (kF10 (q_ifn (fun z => z.1 hc1) h)) trivial
  · refine And.intro (fun hc2 => ?_) (fun hc2 => ?_)
    · replace h := q_ifp (⟨hc1, hc2⟩) h
      refine sX12_pixelByte_12 ?_
      replace h := q_be h
      obtain ⟨v4, hv, h⟩ := h
      replace hv := q_fR_e hv
      obtain ⟨_, cv4, dv4⟩ := hv
      replace h := q_be h
      obtain ⟨a5, ea5, h⟩ := h
      subst ea5
      replace h := q_be h
      obtain ⟨u6, hv, h⟩ := h
      replace hv := q_ob_e hv
      obtain ⟨_, cu6⟩ := hv
      replace h := q_be h
      obtain ⟨v7, hv, h⟩ := h
      refine ⟨⟨some _, rfl⟩, _, _, cv4, dv4, ⟨some _, rfl⟩, by decide, _, rfl, ⟨_, cu6⟩, ?_⟩
      refine rX12_at hv ?_
      replace h := q_be h
      obtain ⟨v8, hv, h⟩ := h
      replace hv := q_aI_e hv
      obtain ⟨_, _, cv8, iv8, yv8⟩ := hv
      refine ⟨_, _, cv8, iv8, _, yv8, by decide, _, rfl, ?_⟩
      refine rX12_byteOf rfl ?_
      exact ps_weak (pjX12_pixelByte_31 h hk) trivial
    · exact ps_weak (kF10 (q_ifn (fun z => hc2 z.2) h)) trivial
def fX12_foretold (x0 : Int32) (x1 : Int32) (x2 : Int32) (x3 : Int32) : Int32 := if ¬ x0 = 0 then (if ¬ x0 = (1 : Int32) then (if ¬ x0 = (2 : Int32) then (if ¬ x0 = (3 : Int32) then ((if ((fX12_abs (((x1 + x2) - x3) - x2)) < (fX12_abs (((x1 + x2) - x3) - x1))) ∨ ((fX12_abs (((x1 + x2) - x3) - x3)) < (fX12_abs (((x1 + x2) - x3) - x1))) then (if (fX12_abs (((x1 + x2) - x3) - x3)) < (fX12_abs (((x1 + x2) - x3) - x2)) then x3 else x2) else x1)) else ((x1 + x2) / (2 : Int32))) else (x2)) else (x1)) else ((0 : Int32))
theorem rX12_foretold {d : Nat} {Q : ps_Rs → ps_G → Prop} {g : ps_G} {x0 : Int32} {x1 : Int32} {x2 : Int32} {x3 : Int32} {r : Int32} (h : fX12_foretold x0 x1 x2 x3 = r) (hk : Q (.inl (some (.int r))) g) : ps_Ok mX12_foretold (d + 1) [.int x0, .int x1, .int x2, .int x3] g Q := by
  unfold fX12_foretold at h
  refine sX12_foretold_0 ?_
  refine And.intro (fun hc1 => ?_) (fun hc1 => ?_)
  · replace h := q_ifp (hc1) h
    refine sX12_foretold_6 ?_
    refine And.intro (fun hc2 => ?_) (fun hc2 => ?_)
    · replace h := q_ifp (hc2) h
      refine sX12_foretold_13 ?_
      refine And.intro (fun hc3 => ?_) (fun hc3 => ?_)
      · replace h := q_ifp (hc3) h
        refine sX12_foretold_20 ?_
        refine And.intro (fun hc4 => ?_) (fun hc4 => ?_)
        · replace h := q_ifp (hc4) h
          refine sX12_foretold_31 ?_
          refine ⟨by decide, ?_⟩
          refine rX12_abs rfl ?_
          refine ⟨by decide, ?_⟩
          refine rX12_abs rfl ?_
          refine ⟨by decide, ?_⟩
          refine rX12_abs rfl ?_
          have kJ8 : ∀ w7 : Int32, w7 = (if ((fX12_abs (((x1 + x2) - x3) - x2)) < (fX12_abs (((x1 + x2) - x3) - x1))) ∨ ((fX12_abs (((x1 + x2) - x3) - x3)) < (fX12_abs (((x1 + x2) - x3) - x1))) then (if (fX12_abs (((x1 + x2) - x3) - x3)) < (fX12_abs (((x1 + x2) - x3) - x2)) then x3 else x2) else x1) → ps_At mX12_foretold (d + 1) 95 [] [.int w7] g Q := by
            rintro _ rfl
            refine sX12_foretold_95 ?_
            subst h
            exact ⟨rfl, hk⟩
          refine ⟨by decide, ?_⟩
          refine And.intro (fun hc5 => ?_) (fun hc5 => ?_)
          · refine sX12_foretold_83 ?_
            have kJ11 : ∀ w10 : Int32, w10 = (if (fX12_abs (((x1 + x2) - x3) - x3)) < (fX12_abs (((x1 + x2) - x3) - x2)) then x3 else x2) → ps_At mX12_foretold (d + 1) 95 [] [.int w10] g Q := by
              rintro _ rfl
              exact ps_weak (kJ8 _ (if_pos (Or.inl hc5)).symm) trivial
            refine And.intro (fun hc9 => ?_) (fun hc9 => ?_)
            · refine sX12_foretold_94 ?_
              exact ps_weak (kJ11 _ (if_pos (hc9)).symm) trivial
            · exact ps_weak (kJ11 _ (if_neg (hc9)).symm) trivial
          · refine And.intro (fun hc6 => ?_) (fun hc6 => ?_)
            · refine sX12_foretold_83 ?_
              have kJ14 : ∀ w13 : Int32, w13 = (if (fX12_abs (((x1 + x2) - x3) - x3)) < (fX12_abs (((x1 + x2) - x3) - x2)) then x3 else x2) → ps_At mX12_foretold (d + 1) 95 [] [.int w13] g Q := by
                rintro _ rfl
                exact ps_weak (kJ8 _ (if_pos (Or.inr (hc6))).symm) trivial
              refine And.intro (fun hc12 => ?_) (fun hc12 => ?_)
              · refine sX12_foretold_94 ?_
                exact ps_weak (kJ14 _ (if_pos (hc12)).symm) trivial
              · exact ps_weak (kJ14 _ (if_neg (hc12)).symm) trivial
            · exact ps_weak (kJ8 _ (if_neg (not_or.mpr ⟨hc5, hc6⟩)).symm) trivial
        · replace h := q_ifn (hc4) h
          subst h
          exact ⟨by decide, _, rfl, rfl, hk⟩
      · replace h := q_ifn (hc3) h
        subst h
        exact ⟨rfl, hk⟩
    · replace h := q_ifn (hc2) h
      subst h
      exact ⟨rfl, hk⟩
  · replace h := q_ifn (hc1) h
    subst h
    exact ⟨rfl, hk⟩
noncomputable def jX12_rest_48 (g : ps_G) (x0 : Nat) (x1 : Int32) (x2 : Int32) (x3 : Int32) (x4 : Int32) (x5 : Int32) (k0 : Int32) : Option (Int32) := Option.bind (q_ob 12 g x0) fun u11 => Option.bind (fX12_pixelByte g x0 x2 x3) fun v12 => some ((v12 - (fX12_foretold x1 x4 x5 k0)) &&& (255 : Int32))
theorem pjX12_rest_48 {d : Nat} {Q : ps_Rs → ps_G → Prop} {g : ps_G} {x0 : Nat} {x1 : Int32} {x2 : Int32} {x3 : Int32} {x4 : Int32} {x5 : Int32} {k0 : Int32} {r : Int32} (h : jX12_rest_48 g x0 x1 x2 x3 x4 x5 k0 = some r) (hk : Q (.inl (some (.int r))) g) : ps_At mX12_rest (d + 2) 48 [(0, .ref x0), (1, .int x1), (2, .int x2), (3, .int x3), (4, .int x4), (5, .int x5)] [.int k0] g Q := by
  unfold jX12_rest_48 at h
  refine sX12_rest_48 ?_
  replace h := q_be h
  obtain ⟨u11, hv, h⟩ := h
  replace hv := q_ob_e hv
  obtain ⟨_, cu11⟩ := hv
  replace h := q_be h
  obtain ⟨v12, hv, h⟩ := h
  refine ⟨by decide, ⟨some _, rfl⟩, ⟨_, cu11⟩, ?_⟩
  refine rX12_pixelByte hv ?_
  refine rX12_foretold rfl ?_
  cases h
  exact ⟨rfl, hk⟩
noncomputable def jX12_rest_17 (g : ps_G) (x0 : Nat) (x1 : Int32) (x2 : Int32) (x3 : Int32) (k0 : Int32) : Option (Int32) := Option.bind (q_ob 12 g x0) fun u5 => Option.bind (fX12_pixelByte g x0 x2 (x3 - (1 : Int32))) fun v6 => if (4 : Int32) ≤ x2 then (Option.bind (q_ob 12 g x0) fun u9 => Option.bind (fX12_pixelByte g x0 (x2 - (4 : Int32)) (x3 - (1 : Int32))) fun v10 => jX12_rest_48 g x0 x1 x2 x3 k0 v6 v10) else (jX12_rest_48 g x0 x1 x2 x3 k0 v6 (0 : Int32))
theorem pjX12_rest_17 {d : Nat} {Q : ps_Rs → ps_G → Prop} {g : ps_G} {x0 : Nat} {x1 : Int32} {x2 : Int32} {x3 : Int32} {k0 : Int32} {r : Int32} (h : jX12_rest_17 g x0 x1 x2 x3 k0 = some r) (hk : Q (.inl (some (.int r))) g) : ps_At mX12_rest (d + 2) 17 [(0, .ref x0), (1, .int x1), (2, .int x2), (3, .int x3)] [.int k0] g Q := by
  unfold jX12_rest_17 at h
  refine sX12_rest_17 ?_
  replace h := q_be h
  obtain ⟨u5, hv, h⟩ := h
  replace hv := q_ob_e hv
  obtain ⟨_, cu5⟩ := hv
  replace h := q_be h
  obtain ⟨v6, hv, h⟩ := h
  refine ⟨by decide, ⟨some _, rfl⟩, ⟨_, cu5⟩, ?_⟩
  refine rX12_pixelByte hv ?_
  refine ⟨by decide, ?_⟩
  refine And.intro (fun hc7 => ?_) (fun hc7 => ?_)
  · replace h := q_ifp (hc7) h
    refine sX12_rest_38 ?_
    replace h := q_be h
    obtain ⟨u9, hv, h⟩ := h
    replace hv := q_ob_e hv
    obtain ⟨_, cu9⟩ := hv
    replace h := q_be h
    obtain ⟨v10, hv, h⟩ := h
    refine ⟨⟨some _, rfl⟩, ⟨_, cu9⟩, ?_⟩
    refine rX12_pixelByte hv ?_
    exact ps_weak (pjX12_rest_48 h hk) ⟨rfl, rfl, rfl, rfl, rfl, rfl, trivial⟩
  · replace h := q_ifn (hc7) h
    exact ps_weak (pjX12_rest_48 h hk) ⟨rfl, rfl, rfl, rfl, rfl, rfl, trivial⟩
noncomputable def fX12_rest (g : ps_G) (x0 : Nat) (x1 : Int32) (x2 : Int32) (x3 : Int32) : Option (Int32) := if (4 : Int32) ≤ x2 then (Option.bind (q_ob 12 g x0) fun u3 => Option.bind (fX12_pixelByte g x0 (x2 - (4 : Int32)) x3) fun v4 => jX12_rest_17 g x0 x1 x2 x3 v4) else (jX12_rest_17 g x0 x1 x2 x3 (0 : Int32))
theorem rX12_rest {d : Nat} {Q : ps_Rs → ps_G → Prop} {g : ps_G} {x0 : Nat} {x1 : Int32} {x2 : Int32} {x3 : Int32} {r : Int32} (h : fX12_rest g x0 x1 x2 x3 = some r) (hk : Q (.inl (some (.int r))) g) : ps_Ok mX12_rest (d + 2) [.ref x0, .int x1, .int x2, .int x3] g Q := by
  unfold fX12_rest at h
  refine sX12_rest_0 ?_
  refine And.intro (fun hc1 => ?_) (fun hc1 => ?_)
  · replace h := q_ifp (hc1) h
    refine sX12_rest_9 ?_
    replace h := q_be h
    obtain ⟨u3, hv, h⟩ := h
    replace hv := q_ob_e hv
    obtain ⟨_, cu3⟩ := hv
    replace h := q_be h
    obtain ⟨v4, hv, h⟩ := h
    refine ⟨⟨some _, rfl⟩, ⟨_, cu3⟩, ?_⟩
    refine rX12_pixelByte hv ?_
    exact ps_weak (pjX12_rest_17 h hk) ⟨rfl, rfl, rfl, rfl, trivial⟩
  · replace h := q_ifn (hc1) h
    exact ps_weak (pjX12_rest_17 h hk) ⟨rfl, rfl, rfl, rfl, trivial⟩
noncomputable def bX12_makeRows_34 (g : ps_G) (x0 : Nat) (x1 : Int32) (x2 : Int32) (x3 : Int32) (x4 : Int32) (x5 : Int32) (x6 : Int32) : Option ((Int32 × Int32) ⊕ (Int32)) := Option.bind (q_fI 12 13 g x0) fun v5 => if ((4 : Int32) * v5) ≤ x6 then (some (.inr x5)) else (Option.bind (q_ob 12 g x0) fun u8 => Option.bind (fX12_rest g x0 x4 x6 x1) fun v9 => some (.inl (x5 + (if v9 ≤ (127 : Int32) then v9 else (256 : Int32) - v9), x6 + (1 : Int32))))
theorem pbX12_makeRows_34 {d : Nat} {Q : ps_Rs → ps_G → Prop} {g : ps_G} {x0 : Nat} {x1 : Int32} {x2 : Int32} {x3 : Int32} {x4 : Int32} {x5 : Int32} {x6 : Int32} {x : (Int32 × Int32) ⊕ (Int32)} (h : bX12_makeRows_34 g x0 x1 x2 x3 x4 x5 x6 = some x) (hh : ∀ s' : Int32 × Int32, x = .inl s' → ps_At mX12_makeRows (d + 3) 34 [(0, .ref x0), (1, .int x1), (2, .int x2), (3, .int x3), (4, .int x4), (5, .int s'.1), (6, .int s'.2)] [] g Q) (he : ∀ r' : Int32, x = .inr r' → ps_At mX12_makeRows (d + 3) 85 [(0, .ref x0), (1, .int x1), (2, .int x2), (3, .int x3), (4, .int x4), (5, .int r')] [] g Q) : ps_At mX12_makeRows (d + 3) 34 [(0, .ref x0), (1, .int x1), (2, .int x2), (3, .int x3), (4, .int x4), (5, .int x5), (6, .int x6)] [] g Q := by
  unfold bX12_makeRows_34 at h
  refine sX12_makeRows_34 ?_
  replace h := q_be h
  obtain ⟨v5, hv, h⟩ := h
  replace hv := q_fI_e hv
  obtain ⟨_, cv5, dv5⟩ := hv
  refine ⟨⟨some _, rfl⟩, _, _, cv5, dv5, ?_⟩
  refine And.intro (fun hc6 => ?_) (fun hc6 => ?_)
  · replace h := q_ifp (hc6) h
    exact ps_weak (he x5 (Option.some.inj h).symm) ⟨rfl, rfl, rfl, rfl, rfl, rfl, trivial⟩
  · replace h := q_ifn (hc6) h
    replace h := q_be h
    obtain ⟨u8, hv, h⟩ := h
    replace hv := q_ob_e hv
    obtain ⟨_, cu8⟩ := hv
    replace h := q_be h
    obtain ⟨v9, hv, h⟩ := h
    refine ⟨⟨some _, rfl⟩, ⟨_, cu8⟩, ?_⟩
    refine rX12_rest hv ?_
    have kJ12 : ∀ w11 : Int32, w11 = (if v9 ≤ (127 : Int32) then v9 else (256 : Int32) - v9) → ps_At mX12_makeRows (d + 3) 76 [(0, .ref x0), (1, .int x1), (2, .int x2), (3, .int x3), (4, .int x4), (6, .int x6)] [.int w11, .int x5] g Q := by
      rintro _ rfl
      refine sX12_makeRows_76 ?_
      refine ⟨by decide, by decide, ?_⟩
      exact ps_weak (hh (x5 + (if v9 ≤ (127 : Int32) then v9 else (256 : Int32) - v9), x6 + (1 : Int32)) (Option.some.inj h).symm) ⟨rfl, rfl, rfl, rfl, rfl, rfl, rfl, trivial⟩
    refine ⟨by decide, ?_⟩
    refine And.intro (fun hc10 => ?_) (fun hc10 => ?_)
    · refine sX12_makeRows_74 ?_
      exact ps_weak (kJ12 _ (if_pos (hc10)).symm) ⟨rfl, rfl, rfl, rfl, rfl, rfl, trivial⟩
    · exact ps_weak (kJ12 _ (if_neg (hc10)).symm) ⟨rfl, rfl, rfl, rfl, rfl, rfl, trivial⟩
noncomputable def bX12_makeRows_22 (g : ps_G) (x0 : Nat) (x1 : Int32) (x2 : Int32) (x3 : Int32) (x4 : Int32) : Option ((Int32 × Int32 × Int32) ⊕ (Int32)) := if (5 : Int32) ≤ x4 then (some (.inr x2)) else (Option.bind (q_lp (fun s => bX12_makeRows_34 g x0 x1 x2 x3 x4 s.1 s.2) ((0 : Int32), (0 : Int32))) fun s15 => some (.inl ((if (x3 < 0) ∨ (s15 < x3) then x4 else x2), (if (x3 < 0) ∨ (s15 < x3) then s15 else x3), x4 + (1 : Int32))))
theorem pbX12_makeRows_22 {d : Nat} {Q : ps_Rs → ps_G → Prop} {g : ps_G} {x0 : Nat} {x1 : Int32} {x2 : Int32} {x3 : Int32} {x4 : Int32} {x : (Int32 × Int32 × Int32) ⊕ (Int32)} (h : bX12_makeRows_22 g x0 x1 x2 x3 x4 = some x) (hh : ∀ s' : Int32 × Int32 × Int32, x = .inl s' → ps_At mX12_makeRows (d + 3) 22 [(0, .ref x0), (1, .int x1), (2, .int s'.1), (3, .int s'.2.1), (4, .int s'.2.2)] [] g Q) (he : ∀ r' : Int32, x = .inr r' → ps_At mX12_makeRows (d + 3) 110 [(0, .ref x0), (1, .int x1), (2, .int r')] [] g Q) : ps_At mX12_makeRows (d + 3) 22 [(0, .ref x0), (1, .int x1), (2, .int x2), (3, .int x3), (4, .int x4)] [] g Q := by
  unfold bX12_makeRows_22 at h
  refine sX12_makeRows_22 ?_
  refine And.intro (fun hc4 => ?_) (fun hc4 => ?_)
  · replace h := q_ifp (hc4) h
    exact ps_weak (he x2 (Option.some.inj h).symm) ⟨rfl, rfl, rfl, trivial⟩
  · replace h := q_ifn (hc4) h
    refine ⟨by decide, by decide, ?_⟩
    replace h := q_be h
    obtain ⟨s15, hl, h⟩ := h
    refine ps_weak (q_lp_ok hl (fun s => ps_At mX12_makeRows (d + 3) 34 [(0, .ref x0), (1, .int x1), (2, .int x2), (3, .int x3), (4, .int x4), (5, .int s.1), (6, .int s.2)] [] g Q) (fun r => ps_At mX12_makeRows (d + 3) 85 [(0, .ref x0), (1, .int x1), (2, .int x2), (3, .int x3), (4, .int x4), (5, .int r)] [] g Q) (fun s x hb hh he => pbX12_makeRows_34 hb hh he) ?_) ⟨rfl, rfl, rfl, rfl, rfl, rfl, rfl, trivial⟩
    refine (?_ : ps_At mX12_makeRows (d + 3) 85 [(0, .ref x0), (1, .int x1), (2, .int x2), (3, .int x3), (4, .int x4), (5, .int s15)] [] g Q)
    refine sX12_makeRows_85 ?_
    have kJ20 : ∀ w18 : Int32, w18 = (if (x3 < 0) ∨ (s15 < x3) then x4 else x2) → ∀ w19 : Int32, w19 = (if (x3 < 0) ∨ (s15 < x3) then s15 else x3) → ps_At mX12_makeRows (d + 3) 104 [(0, .ref x0), (1, .int x1), (2, .int w18), (3, .int w19), (4, .int x4)] [] g Q := by
      rintro _ rfl _ rfl
      refine sX12_makeRows_104 ?_
      refine ⟨by decide, ?_⟩
      exact ps_weak (hh ((if (x3 < 0) ∨ (s15 < x3) then x4 else x2), (if (x3 < 0) ∨ (s15 < x3) then s15 else x3), x4 + (1 : Int32)) (Option.some.inj h).symm) ⟨rfl, rfl, rfl, rfl, rfl, trivial⟩
    refine And.intro (fun hc16 => ?_) (fun hc16 => ?_)
    · refine sX12_makeRows_98 ?_
      refine ⟨by decide, by decide, ?_⟩
      exact ps_weak (kJ20 _ (if_pos (Or.inl hc16)).symm _ (if_pos (Or.inl hc16)).symm) ⟨rfl, rfl, rfl, rfl, rfl, trivial⟩
    · refine And.intro (fun hc17 => ?_) (fun hc17 => ?_)
      · refine sX12_makeRows_98 ?_
        refine ⟨by decide, by decide, ?_⟩
        exact ps_weak (kJ20 _ (if_pos (Or.inr (hc17))).symm _ (if_pos (Or.inr (hc17))).symm) ⟨rfl, rfl, rfl, rfl, rfl, trivial⟩
      · exact ps_weak (kJ20 _ (if_neg (not_or.mpr ⟨hc16, hc17⟩)).symm _ (if_neg (not_or.mpr ⟨hc16, hc17⟩)).symm) ⟨rfl, rfl, rfl, rfl, rfl, trivial⟩
noncomputable def bX12_makeRows_133 (x0 : Nat) (x1 : Int32) (x2 : Int32) (x4 : Int32) (g : ps_G) : Option ((Int32 × ps_G) ⊕ (ps_G)) := Option.bind (q_fI 12 13 g x0) fun v30 => if ((4 : Int32) * v30) ≤ x4 then (some (.inr g)) else (Option.bind (q_fR 12 74 g x0) fun v33 => Option.bind (v33) fun a34 => Option.bind (q_fI 12 75 g x0) fun v35 => Option.bind (q_ob 12 g x0) fun u36 => Option.bind (fX12_rest g x0 x2 x4 x1) fun v37 => Option.bind (q_wI g a34 v35 v37) fun g38 => Option.bind (q_fI 12 75 g38 x0) fun v39 => Option.bind (q_sI 12 75 g38 x0 (v39 + (1 : Int32))) fun g40 => some (.inl (x4 + (1 : Int32), g40)))
theorem pbX12_makeRows_133 {d : Nat} {Q : ps_Rs → ps_G → Prop}  {x0 : Nat} {x1 : Int32} {x2 : Int32} {x4 : Int32} {g : ps_G} {x : (Int32 × ps_G) ⊕ (ps_G)} (h : bX12_makeRows_133 x0 x1 x2 x4 g = some x) (hh : ∀ s' : Int32 × ps_G, x = .inl s' → ps_At mX12_makeRows (d + 3) 133 [(0, .ref x0), (1, .int x1), (2, .int x2), (4, .int s'.1)] [] s'.2 Q) (he : ∀ r' : ps_G, x = .inr r' → ps_At mX12_makeRows (d + 3) 177 [(0, .ref x0), (1, .int x1)] [] r' Q) : ps_At mX12_makeRows (d + 3) 133 [(0, .ref x0), (1, .int x1), (2, .int x2), (4, .int x4)] [] g Q := by
  unfold bX12_makeRows_133 at h
  refine sX12_makeRows_133 ?_
  replace h := q_be h
  obtain ⟨v30, hv, h⟩ := h
  replace hv := q_fI_e hv
  obtain ⟨_, cv30, dv30⟩ := hv
  refine ⟨⟨some _, rfl⟩, _, _, cv30, dv30, ?_⟩
  refine And.intro (fun hc31 => ?_) (fun hc31 => ?_)
  · replace h := q_ifp (hc31) h
    exact ps_weak (he g (Option.some.inj h).symm) ⟨rfl, rfl, trivial⟩
  · replace h := q_ifn (hc31) h
    replace h := q_be h
    obtain ⟨v33, hv, h⟩ := h
    replace hv := q_fR_e hv
    obtain ⟨_, cv33, dv33⟩ := hv
    replace h := q_be h
    obtain ⟨a34, ea34, h⟩ := h
    subst ea34
    replace h := q_be h
    obtain ⟨v35, hv, h⟩ := h
    replace hv := q_fI_e hv
    obtain ⟨_, cv35, dv35⟩ := hv
    replace h := q_be h
    obtain ⟨u36, hv, h⟩ := h
    replace hv := q_ob_e hv
    obtain ⟨_, cu36⟩ := hv
    replace h := q_be h
    obtain ⟨v37, hv, h⟩ := h
    refine ⟨⟨some _, rfl⟩, _, _, cv33, dv33, ⟨some _, rfl⟩, _, _, cv35, dv35, ⟨some _, rfl⟩, ⟨_, cu36⟩, ?_⟩
    refine rX12_rest hv ?_
    replace h := q_be h
    obtain ⟨g38, hv, h⟩ := h
    replace hv := q_wI_e hv
    obtain ⟨_, _, cg38, pg38, ig38, yg38⟩ := hv
    replace h := q_be h
    obtain ⟨v39, hv, h⟩ := h
    replace hv := q_fI_e hv
    obtain ⟨_, cv39, dv39⟩ := hv
    replace h := q_be h
    obtain ⟨g40, hv, h⟩ := h
    replace hv := q_sI_e hv
    obtain ⟨_, cg40, dg40, yg40⟩ := hv
    refine ⟨_, _, cg38, pg38, ig38, _, yg38, ⟨some _, rfl⟩, rfl, _, _, cv39, dv39, _, cg40, dg40, rfl, rfl, _, yg40, by decide, ?_⟩
    exact ps_weak (hh (x4 + (1 : Int32), g40) (Option.some.inj h).symm) ⟨rfl, rfl, rfl, rfl, trivial⟩
noncomputable def bX12_makeRows_7 (x0 : Nat) (x1 : Int32) (g : ps_G) : Option ((Int32 × ps_G) ⊕ (ps_G)) := Option.bind (q_fI 12 14 g x0) fun v2 => if v2 ≤ x1 then (some (.inr g)) else (Option.bind (q_lp (fun s => bX12_makeRows_22 g x0 x1 s.1 s.2.1 s.2.2) ((0 : Int32), (-1 : Int32), (0 : Int32))) fun s23 => Option.bind (q_fR 12 74 g x0) fun v24 => Option.bind (v24) fun a25 => Option.bind (q_fI 12 75 g x0) fun v26 => Option.bind (q_wI g a25 v26 s23) fun g27 => Option.bind (q_fI 12 75 g27 x0) fun v28 => Option.bind (q_sI 12 75 g27 x0 (v28 + (1 : Int32))) fun g29 => Option.bind (q_lp (fun s => bX12_makeRows_133 x0 x1 s23 s.1 s.2) ((0 : Int32), g29)) fun s43 => some (.inl (x1 + (1 : Int32), s43)))
theorem pbX12_makeRows_7 {d : Nat} {Q : ps_Rs → ps_G → Prop}  {x0 : Nat} {x1 : Int32} {g : ps_G} {x : (Int32 × ps_G) ⊕ (ps_G)} (h : bX12_makeRows_7 x0 x1 g = some x) (hh : ∀ s' : Int32 × ps_G, x = .inl s' → ps_At mX12_makeRows (d + 3) 7 [(0, .ref x0), (1, .int s'.1)] [] s'.2 Q) (he : ∀ r' : ps_G, x = .inr r' → ps_At mX12_makeRows (d + 3) 183 [] [] r' Q) : ps_At mX12_makeRows (d + 3) 7 [(0, .ref x0), (1, .int x1)] [] g Q := by
  unfold bX12_makeRows_7 at h
  refine sX12_makeRows_7 ?_
  replace h := q_be h
  obtain ⟨v2, hv, h⟩ := h
  replace hv := q_fI_e hv
  obtain ⟨_, cv2, dv2⟩ := hv
  refine ⟨⟨some _, rfl⟩, _, _, cv2, dv2, ?_⟩
  refine And.intro (fun hc3 => ?_) (fun hc3 => ?_)
  · replace h := q_ifp (hc3) h
    exact ps_weak (he g (Option.some.inj h).symm) trivial
  · replace h := q_ifn (hc3) h
    refine ⟨by decide, by decide, by decide, ?_⟩
    replace h := q_be h
    obtain ⟨s23, hl, h⟩ := h
    refine ps_weak (q_lp_ok hl (fun s => ps_At mX12_makeRows (d + 3) 22 [(0, .ref x0), (1, .int x1), (2, .int s.1), (3, .int s.2.1), (4, .int s.2.2)] [] g Q) (fun r => ps_At mX12_makeRows (d + 3) 110 [(0, .ref x0), (1, .int x1), (2, .int r)] [] g Q) (fun s x hb hh he => pbX12_makeRows_22 hb hh he) ?_) ⟨rfl, rfl, rfl, rfl, rfl, trivial⟩
    refine (?_ : ps_At mX12_makeRows (d + 3) 110 [(0, .ref x0), (1, .int x1), (2, .int s23)] [] g Q)
    refine sX12_makeRows_110 ?_
    replace h := q_be h
    obtain ⟨v24, hv, h⟩ := h
    replace hv := q_fR_e hv
    obtain ⟨_, cv24, dv24⟩ := hv
    replace h := q_be h
    obtain ⟨a25, ea25, h⟩ := h
    subst ea25
    replace h := q_be h
    obtain ⟨v26, hv, h⟩ := h
    replace hv := q_fI_e hv
    obtain ⟨_, cv26, dv26⟩ := hv
    replace h := q_be h
    obtain ⟨g27, hv, h⟩ := h
    replace hv := q_wI_e hv
    obtain ⟨_, _, cg27, pg27, ig27, yg27⟩ := hv
    replace h := q_be h
    obtain ⟨v28, hv, h⟩ := h
    replace hv := q_fI_e hv
    obtain ⟨_, cv28, dv28⟩ := hv
    replace h := q_be h
    obtain ⟨g29, hv, h⟩ := h
    replace hv := q_sI_e hv
    obtain ⟨_, cg29, dg29, yg29⟩ := hv
    refine ⟨⟨some _, rfl⟩, _, _, cv24, dv24, ⟨some _, rfl⟩, _, _, cv26, dv26, _, _, cg27, pg27, ig27, _, yg27, ⟨some _, rfl⟩, rfl, _, _, cv28, dv28, _, cg29, dg29, rfl, rfl, _, yg29, by decide, ?_⟩
    replace h := q_be h
    obtain ⟨s43, hl, h⟩ := h
    refine ps_weak (q_lp_ok hl (fun s => ps_At mX12_makeRows (d + 3) 133 [(0, .ref x0), (1, .int x1), (2, .int s23), (4, .int s.1)] [] s.2 Q) (fun r => ps_At mX12_makeRows (d + 3) 177 [(0, .ref x0), (1, .int x1)] [] r Q) (fun s x hb hh he => pbX12_makeRows_133 hb hh he) ?_) ⟨rfl, rfl, rfl, rfl, trivial⟩
    refine (?_ : ps_At mX12_makeRows (d + 3) 177 [(0, .ref x0), (1, .int x1)] [] s43 Q)
    refine sX12_makeRows_177 ?_
    refine ⟨by decide, ?_⟩
    exact ps_weak (hh (x1 + (1 : Int32), s43) (Option.some.inj h).symm) ⟨rfl, rfl, trivial⟩
noncomputable def fX12_makeRows (g : ps_G) (x0 : Nat) : Option (ps_G) := Option.bind (q_sI 12 75 g x0 (0 : Int32)) fun g1 => Option.bind (q_lp (fun s => bX12_makeRows_7 x0 s.1 s.2) ((0 : Int32), g1)) fun s46 => some s46
theorem rX12_makeRows {d : Nat} {Q : ps_Rs → ps_G → Prop} {g : ps_G} {x0 : Nat} {r : ps_G} (h : fX12_makeRows g x0 = some r) (hk : Q (.inl none) r) : ps_Ok mX12_makeRows (d + 3) [.ref x0] g Q := by
  unfold fX12_makeRows at h
  refine sX12_makeRows_0 ?_
  replace h := q_be h
  obtain ⟨g1, hv, h⟩ := h
  replace hv := q_sI_e hv
  obtain ⟨_, cg1, dg1, yg1⟩ := hv
  refine ⟨⟨some _, rfl⟩, _, cg1, dg1, rfl, rfl, _, yg1, by decide, ?_⟩
  replace h := q_be h
  obtain ⟨s46, hl, h⟩ := h
  refine ps_weak (q_lp_ok hl (fun s => ps_At mX12_makeRows (d + 3) 7 [(0, .ref x0), (1, .int s.1)] [] s.2 Q) (fun r => ps_At mX12_makeRows (d + 3) 183 [] [] r Q) (fun s x hb hh he => pbX12_makeRows_7 hb hh he) ?_) ⟨rfl, rfl, trivial⟩
  refine (?_ : ps_At mX12_makeRows (d + 3) 183 [] [] s46 Q)
  refine sX12_makeRows_183 ?_
  cases h
  exact ⟨rfl, rfl, hk⟩
noncomputable def fX12_outBit (g : ps_G) (x0 : Nat) (x1 : Int32) : Option (ps_G) := Option.bind (q_fI 12 76 g x0) fun v1 => Option.bind (q_fI 12 77 g x0) fun v2 => Option.bind (q_sI 12 76 g x0 (v1 ||| (q_shl x1 v2))) fun g3 => Option.bind (q_fI 12 77 g3 x0) fun v4 => Option.bind (q_sI 12 77 g3 x0 (v4 + (1 : Int32))) fun g5 => Option.bind (q_fI 12 77 g5 x0) fun v6 => if (8 : Int32) ≤ v6 then (Option.bind (q_fI 12 76 g5 x0) fun v8 => Option.bind (q_ob 12 g5 x0) fun u9 => Option.bind (fX12_outByte g5 x0 v8) fun v10 => Option.bind (q_sI 12 76 v10 x0 (0 : Int32)) fun g11 => Option.bind (q_sI 12 77 g11 x0 (0 : Int32)) fun g12 => some g12) else (some g5)
theorem rX12_outBit {d : Nat} {Q : ps_Rs → ps_G → Prop} {g : ps_G} {x0 : Nat} {x1 : Int32} {r : ps_G} (h : fX12_outBit g x0 x1 = some r) (hk : Q (.inl none) r) : ps_Ok mX12_outBit (d + 1) [.ref x0, .int x1] g Q := by
  unfold fX12_outBit at h
  refine sX12_outBit_0 ?_
  replace h := q_be h
  obtain ⟨v1, hv, h⟩ := h
  replace hv := q_fI_e hv
  obtain ⟨_, cv1, dv1⟩ := hv
  replace h := q_be h
  obtain ⟨v2, hv, h⟩ := h
  replace hv := q_fI_e hv
  obtain ⟨_, cv2, dv2⟩ := hv
  replace h := q_be h
  obtain ⟨g3, hv, h⟩ := h
  replace hv := q_sI_e hv
  obtain ⟨_, cg3, dg3, yg3⟩ := hv
  replace h := q_be h
  obtain ⟨v4, hv, h⟩ := h
  replace hv := q_fI_e hv
  obtain ⟨_, cv4, dv4⟩ := hv
  replace h := q_be h
  obtain ⟨g5, hv, h⟩ := h
  replace hv := q_sI_e hv
  obtain ⟨_, cg5, dg5, yg5⟩ := hv
  replace h := q_be h
  obtain ⟨v6, hv, h⟩ := h
  replace hv := q_fI_e hv
  obtain ⟨_, cv6, dv6⟩ := hv
  refine ⟨⟨some _, rfl⟩, rfl, _, _, cv1, dv1, ⟨some _, rfl⟩, _, _, cv2, dv2, _, cg3, dg3, rfl, rfl, _, yg3, ⟨some _, rfl⟩, rfl, _, _, cv4, dv4, _, cg5, dg5, rfl, rfl, _, yg5, ⟨some _, rfl⟩, _, _, cv6, dv6, ?_⟩
  refine And.intro (fun hc7 => ?_) (fun hc7 => ?_)
  · replace h := q_ifp (hc7) h
    refine sX12_outBit_35 ?_
    replace h := q_be h
    obtain ⟨v8, hv, h⟩ := h
    replace hv := q_fI_e hv
    obtain ⟨_, cv8, dv8⟩ := hv
    replace h := q_be h
    obtain ⟨u9, hv, h⟩ := h
    replace hv := q_ob_e hv
    obtain ⟨_, cu9⟩ := hv
    replace h := q_be h
    obtain ⟨v10, hv, h⟩ := h
    refine ⟨⟨some _, rfl⟩, ⟨some _, rfl⟩, _, _, cv8, dv8, ⟨_, cu9⟩, ?_⟩
    refine rX12_outByte hv ?_
    replace h := q_be h
    obtain ⟨g11, hv, h⟩ := h
    replace hv := q_sI_e hv
    obtain ⟨_, cg11, dg11, yg11⟩ := hv
    replace h := q_be h
    obtain ⟨g12, hv, h⟩ := h
    replace hv := q_sI_e hv
    obtain ⟨_, cg12, dg12, yg12⟩ := hv
    cases h
    exact ⟨⟨some _, rfl⟩, _, cg11, dg11, rfl, rfl, _, yg11, ⟨some _, rfl⟩, _, cg12, dg12, rfl, rfl, _, yg12, rfl, rfl, hk⟩
  · replace h := q_ifn (hc7) h
    cases h
    exact ⟨rfl, rfl, hk⟩
noncomputable def bX12_outLow_2 (x0 : Nat) (x1 : Int32) (x2 : Int32) (x3 : Int32) (g : ps_G) : Option ((Int32 × ps_G) ⊕ (ps_G)) := if x2 ≤ x3 then (some (.inr g)) else (Option.bind (q_ob 12 g x0) fun u3 => Option.bind (fX12_outBit g x0 ((q_shr x1 x3) &&& (1 : Int32))) fun v4 => some (.inl (x3 + (1 : Int32), v4)))
theorem pbX12_outLow_2 {d : Nat} {Q : ps_Rs → ps_G → Prop}  {x0 : Nat} {x1 : Int32} {x2 : Int32} {x3 : Int32} {g : ps_G} {x : (Int32 × ps_G) ⊕ (ps_G)} (h : bX12_outLow_2 x0 x1 x2 x3 g = some x) (hh : ∀ s' : Int32 × ps_G, x = .inl s' → ps_At mX12_outLow (d + 2) 2 [(0, .ref x0), (1, .int x1), (2, .int x2), (3, .int s'.1)] [] s'.2 Q) (he : ∀ r' : ps_G, x = .inr r' → ps_At mX12_outLow (d + 2) 22 [] [] r' Q) : ps_At mX12_outLow (d + 2) 2 [(0, .ref x0), (1, .int x1), (2, .int x2), (3, .int x3)] [] g Q := by
  unfold bX12_outLow_2 at h
  refine sX12_outLow_2 ?_
  refine And.intro (fun hc1 => ?_) (fun hc1 => ?_)
  · replace h := q_ifp (hc1) h
    exact ps_weak (he g (Option.some.inj h).symm) trivial
  · replace h := q_ifn (hc1) h
    replace h := q_be h
    obtain ⟨u3, hv, h⟩ := h
    replace hv := q_ob_e hv
    obtain ⟨_, cu3⟩ := hv
    replace h := q_be h
    obtain ⟨v4, hv, h⟩ := h
    refine ⟨⟨some _, rfl⟩, ⟨_, cu3⟩, ?_⟩
    refine rX12_outBit hv ?_
    refine ⟨by decide, ?_⟩
    exact ps_weak (hh (x3 + (1 : Int32), v4) (Option.some.inj h).symm) ⟨rfl, rfl, rfl, rfl, trivial⟩
noncomputable def fX12_outLow (g : ps_G) (x0 : Nat) (x1 : Int32) (x2 : Int32) : Option (ps_G) := Option.bind (q_lp (fun s => bX12_outLow_2 x0 x1 x2 s.1 s.2) ((0 : Int32), g)) fun s7 => some s7
theorem rX12_outLow {d : Nat} {Q : ps_Rs → ps_G → Prop} {g : ps_G} {x0 : Nat} {x1 : Int32} {x2 : Int32} {r : ps_G} (h : fX12_outLow g x0 x1 x2 = some r) (hk : Q (.inl none) r) : ps_Ok mX12_outLow (d + 2) [.ref x0, .int x1, .int x2] g Q := by
  unfold fX12_outLow at h
  refine sX12_outLow_0 ?_
  refine ⟨by decide, ?_⟩
  replace h := q_be h
  obtain ⟨s7, hl, h⟩ := h
  refine ps_weak (q_lp_ok hl (fun s => ps_At mX12_outLow (d + 2) 2 [(0, .ref x0), (1, .int x1), (2, .int x2), (3, .int s.1)] [] s.2 Q) (fun r => ps_At mX12_outLow (d + 2) 22 [] [] r Q) (fun s x hb hh he => pbX12_outLow_2 hb hh he) ?_) ⟨rfl, rfl, rfl, rfl, trivial⟩
  refine (?_ : ps_At mX12_outLow (d + 2) 22 [] [] s7 Q)
  refine sX12_outLow_22 ?_
  cases h
  exact ⟨rfl, rfl, hk⟩
noncomputable def bX12_outCode_4 (x0 : Nat) (x1 : Int32) (x3 : Int32) (g : ps_G) : Option ((Int32 × ps_G) ⊕ (ps_G)) := if x3 < 0 then (some (.inr g)) else (Option.bind (q_ob 12 g x0) fun u3 => Option.bind (fX12_outBit g x0 ((q_shr x1 x3) &&& (1 : Int32))) fun v4 => some (.inl (x3 + (-1 : Int32), v4)))
theorem pbX12_outCode_4 {d : Nat} {Q : ps_Rs → ps_G → Prop}  {x0 : Nat} {x1 : Int32} {x3 : Int32} {g : ps_G} {x : (Int32 × ps_G) ⊕ (ps_G)} (h : bX12_outCode_4 x0 x1 x3 g = some x) (hh : ∀ s' : Int32 × ps_G, x = .inl s' → ps_At mX12_outCode (d + 2) 4 [(0, .ref x0), (1, .int x1), (3, .int s'.1)] [] s'.2 Q) (he : ∀ r' : ps_G, x = .inr r' → ps_At mX12_outCode (d + 2) 23 [] [] r' Q) : ps_At mX12_outCode (d + 2) 4 [(0, .ref x0), (1, .int x1), (3, .int x3)] [] g Q := by
  unfold bX12_outCode_4 at h
  refine sX12_outCode_4 ?_
  refine And.intro (fun hc1 => ?_) (fun hc1 => ?_)
  · replace h := q_ifp (hc1) h
    exact ps_weak (he g (Option.some.inj h).symm) trivial
  · replace h := q_ifn (hc1) h
    replace h := q_be h
    obtain ⟨u3, hv, h⟩ := h
    replace hv := q_ob_e hv
    obtain ⟨_, cu3⟩ := hv
    replace h := q_be h
    obtain ⟨v4, hv, h⟩ := h
    refine ⟨⟨some _, rfl⟩, ⟨_, cu3⟩, ?_⟩
    refine rX12_outBit hv ?_
    refine ⟨by decide, ?_⟩
    exact ps_weak (hh (x3 + (-1 : Int32), v4) (Option.some.inj h).symm) ⟨rfl, rfl, rfl, trivial⟩
noncomputable def fX12_outCode (g : ps_G) (x0 : Nat) (x1 : Int32) (x2 : Int32) : Option (ps_G) := Option.bind (q_lp (fun s => bX12_outCode_4 x0 x1 s.1 s.2) (x2 - (1 : Int32), g)) fun s7 => some s7
theorem rX12_outCode {d : Nat} {Q : ps_Rs → ps_G → Prop} {g : ps_G} {x0 : Nat} {x1 : Int32} {x2 : Int32} {r : ps_G} (h : fX12_outCode g x0 x1 x2 = some r) (hk : Q (.inl none) r) : ps_Ok mX12_outCode (d + 2) [.ref x0, .int x1, .int x2] g Q := by
  unfold fX12_outCode at h
  refine sX12_outCode_0 ?_
  refine ⟨by decide, ?_⟩
  replace h := q_be h
  obtain ⟨s7, hl, h⟩ := h
  refine ps_weak (q_lp_ok hl (fun s => ps_At mX12_outCode (d + 2) 4 [(0, .ref x0), (1, .int x1), (3, .int s.1)] [] s.2 Q) (fun r => ps_At mX12_outCode (d + 2) 23 [] [] r Q) (fun s x hb hh he => pbX12_outCode_4 hb hh he) ?_) ⟨rfl, rfl, rfl, trivial⟩
  refine (?_ : ps_At mX12_outCode (d + 2) 23 [] [] s7 Q)
  refine sX12_outCode_23 ?_
  cases h
  exact ⟨rfl, rfl, hk⟩
noncomputable def jX12_outSymbol_81 (g : ps_G) : Option (ps_G) := some g
theorem pjX12_outSymbol_81 {d : Nat} {Q : ps_Rs → ps_G → Prop} {g : ps_G}  {r : ps_G} (h : jX12_outSymbol_81 g = some r) (hk : Q (.inl none) r) : ps_At mX12_outSymbol (d + 3) 81 [] [] g Q := by
  unfold jX12_outSymbol_81 at h
  refine sX12_outSymbol_81 ?_
  cases h
  exact ⟨rfl, rfl, hk⟩
noncomputable def fX12_outSymbol (g : ps_G) (x0 : Nat) (x1 : Int32) : Option (ps_G) := if (144 : Int32) ≤ x1 then (if (256 : Int32) ≤ x1 then (if (280 : Int32) ≤ x1 then (Option.bind (q_ob 12 g x0) fun u10 => Option.bind (fX12_outCode g x0 (((192 : Int32) + x1) - (280 : Int32)) (8 : Int32)) fun v11 => jX12_outSymbol_81 v11) else (Option.bind (q_ob 12 g x0) fun u12 => Option.bind (fX12_outCode g x0 (x1 - (256 : Int32)) (7 : Int32)) fun v13 => jX12_outSymbol_81 v13)) else (Option.bind (q_ob 12 g x0) fun u16 => Option.bind (fX12_outCode g x0 (((400 : Int32) + x1) - (144 : Int32)) (9 : Int32)) fun v17 => jX12_outSymbol_81 v17)) else (Option.bind (q_ob 12 g x0) fun u20 => Option.bind (fX12_outCode g x0 ((48 : Int32) + x1) (8 : Int32)) fun v21 => jX12_outSymbol_81 v21)
theorem rX12_outSymbol {d : Nat} {Q : ps_Rs → ps_G → Prop} {g : ps_G} {x0 : Nat} {x1 : Int32} {r : ps_G} (h : fX12_outSymbol g x0 x1 = some r) (hk : Q (.inl none) r) : ps_Ok mX12_outSymbol (d + 3) [.ref x0, .int x1] g Q := by
  unfold fX12_outSymbol at h
  refine sX12_outSymbol_0 ?_
  refine And.intro (fun hc1 => ?_) (fun hc1 => ?_)
  · replace h := q_ifp (hc1) h
    refine sX12_outSymbol_20 ?_
    refine And.intro (fun hc5 => ?_) (fun hc5 => ?_)
    · replace h := q_ifp (hc5) h
      refine sX12_outSymbol_45 ?_
      refine And.intro (fun hc8 => ?_) (fun hc8 => ?_)
      · replace h := q_ifp (hc8) h
        refine sX12_outSymbol_66 ?_
        replace h := q_be h
        obtain ⟨u10, hv, h⟩ := h
        replace hv := q_ob_e hv
        obtain ⟨_, cu10⟩ := hv
        replace h := q_be h
        obtain ⟨v11, hv, h⟩ := h
        refine ⟨⟨some _, rfl⟩, ⟨_, cu10⟩, ?_⟩
        refine rX12_outCode hv ?_
        exact ps_weak (pjX12_outSymbol_81 h hk) trivial
      · replace h := q_ifn (hc8) h
        replace h := q_be h
        obtain ⟨u12, hv, h⟩ := h
        replace hv := q_ob_e hv
        obtain ⟨_, cu12⟩ := hv
        replace h := q_be h
        obtain ⟨v13, hv, h⟩ := h
        refine ⟨⟨some _, rfl⟩, ⟨_, cu12⟩, ?_⟩
        refine rX12_outCode hv ?_
        exact ps_weak (pjX12_outSymbol_81 h hk) trivial
    · replace h := q_ifn (hc5) h
      replace h := q_be h
      obtain ⟨u16, hv, h⟩ := h
      replace hv := q_ob_e hv
      obtain ⟨_, cu16⟩ := hv
      replace h := q_be h
      obtain ⟨v17, hv, h⟩ := h
      refine ⟨⟨some _, rfl⟩, ⟨_, cu16⟩, ?_⟩
      refine rX12_outCode hv ?_
      exact ps_weak (pjX12_outSymbol_81 h hk) trivial
  · replace h := q_ifn (hc1) h
    replace h := q_be h
    obtain ⟨u20, hv, h⟩ := h
    replace hv := q_ob_e hv
    obtain ⟨_, cu20⟩ := hv
    replace h := q_be h
    obtain ⟨v21, hv, h⟩ := h
    refine ⟨⟨some _, rfl⟩, ⟨_, cu20⟩, ?_⟩
    refine rX12_outCode hv ?_
    exact ps_weak (pjX12_outSymbol_81 h hk) trivial
