noncomputable def bJ7_fill_53178_5 (x0 : Nat) (x1 : Int32) (x3 : Int32) (x2 : Int32) (g : ps_G) : Option ((Int32 × ps_G) ⊕ (ps_G)) := if x3 ≤ x2 then (some (.inr g)) else (Option.bind (q_wI g x0 x2 x1) fun g4 => some (.inl (x2 + (1 : Int32), g4)))
theorem pbJ7_fill_53178_5 {d : Nat} {Q : ps_Rs → ps_G → Prop}  {x0 : Nat} {x1 : Int32} {x3 : Int32} {x2 : Int32} {g : ps_G} {x : (Int32 × ps_G) ⊕ (ps_G)} (h : bJ7_fill_53178_5 x0 x1 x3 x2 g = some x) (hh : ∀ s' : Int32 × ps_G, x = .inl s' → ps_At mJ7_fill_53178 d 5 [(0, .ref x0), (1, .int x1), (2, .int s'.1), (3, .int x3)] [] s'.2 Q) (he : ∀ r' : ps_G, x = .inr r' → ps_At mJ7_fill_53178 d 20 [] [] r' Q) : ps_At mJ7_fill_53178 d 5 [(0, .ref x0), (1, .int x1), (2, .int x2), (3, .int x3)] [] g Q := by
  unfold bJ7_fill_53178_5 at h
  refine sJ7_fill_53178_5 ?_
  refine And.intro (fun hc2 => ?_) (fun hc2 => ?_)
  · replace h := q_ifp (hc2) h
    exact ps_weak (he g (Option.some.inj h).symm) trivial
  · replace h := q_ifn (hc2) h
    replace h := q_be h
    obtain ⟨g4, hv, h⟩ := h
    replace hv := q_wI_e hv
    obtain ⟨_, _, cg4, pg4, ig4, yg4⟩ := hv
    refine ⟨⟨some _, rfl⟩, _, _, cg4, pg4, ig4, _, yg4, by decide, ?_⟩
    exact ps_weak (hh (x2 + (1 : Int32), g4) (Option.some.inj h).symm) ⟨rfl, rfl, rfl, rfl, trivial⟩
noncomputable def fJ7_fill_53178 (g : ps_G) (x0 : Nat) (x1 : Int32) : Option (ps_G) := Option.bind (q_len g x0) fun v1 => Option.bind (q_lp (fun s => bJ7_fill_53178_5 x0 x1 v1 s.1 s.2) ((0 : Int32), g)) fun s7 => some s7
theorem rJ7_fill_53178 {d : Nat} {Q : ps_Rs → ps_G → Prop} {g : ps_G} {x0 : Nat} {x1 : Int32} {r : ps_G} (h : fJ7_fill_53178 g x0 x1 = some r) (hk : Q (.inl none) r) : ps_Ok mJ7_fill_53178 d [.ref x0, .int x1] g Q := by
  unfold fJ7_fill_53178 at h
  refine sJ7_fill_53178_0 ?_
  replace h := q_be h
  obtain ⟨v1, hv, h⟩ := h
  replace hv := q_len_e hv
  obtain ⟨_, _, cv1, qv1, yv1⟩ := hv
  refine ⟨by decide, ⟨some _, rfl⟩, _, _, cv1, qv1, _, yv1, by decide, ?_⟩
  replace h := q_be h
  obtain ⟨s7, hl, h⟩ := h
  refine ps_weak (q_lp_ok hl (fun s => ps_At mJ7_fill_53178 d 5 [(0, .ref x0), (1, .int x1), (2, .int s.1), (3, .int v1)] [] s.2 Q) (fun r => ps_At mJ7_fill_53178 d 20 [] [] r Q) (fun s x hb hh he => pbJ7_fill_53178_5 hb hh he) ?_) ⟨rfl, rfl, rfl, rfl, trivial⟩
  refine (?_ : ps_At mJ7_fill_53178 d 20 [] [] s7 Q)
  refine sJ7_fill_53178_20 ?_
  cases h
  exact ⟨rfl, rfl, hk⟩
def fJ9_abs_0f7a4 (x0 : Int32) : Int32 := (if 0 ≤ x0 then x0 else -x0)
theorem rJ9_abs_0f7a4 {d : Nat} {Q : ps_Rs → ps_G → Prop} {g : ps_G} {x0 : Int32} {r : Int32} (h : fJ9_abs_0f7a4 x0 = r) (hk : Q (.inl (some (.int r))) g) : ps_Ok mJ9_abs_0f7a4 d [.int x0] g Q := by
  unfold fJ9_abs_0f7a4 at h
  refine sJ9_abs_0f7a4_0 ?_
  have kJ3 : ∀ w2 : Int32, w2 = (if 0 ≤ x0 then x0 else -x0) → ps_At mJ9_abs_0f7a4 d 10 [] [.int w2] g Q := by
    rintro _ rfl
    refine sJ9_abs_0f7a4_10 ?_
    subst h
    exact ⟨rfl, hk⟩
  refine And.intro (fun hc1 => ?_) (fun hc1 => ?_)
  · refine sJ9_abs_0f7a4_9 ?_
    exact ps_weak (kJ3 _ (if_pos (hc1)).symm) trivial
  · exact ps_weak (kJ3 _ (if_neg (hc1)).symm) trivial
def fJ9_min_7cf53 (x0 : Int32) (x1 : Int32) : Int32 := (if x1 < x0 then x1 else x0)
theorem rJ9_min_7cf53 {d : Nat} {Q : ps_Rs → ps_G → Prop} {g : ps_G} {x0 : Int32} {x1 : Int32} {r : Int32} (h : fJ9_min_7cf53 x0 x1 = r) (hk : Q (.inl (some (.int r))) g) : ps_Ok mJ9_min_7cf53 d [.int x0, .int x1] g Q := by
  unfold fJ9_min_7cf53 at h
  refine sJ9_min_7cf53_0 ?_
  have kJ3 : ∀ w2 : Int32, w2 = (if x1 < x0 then x1 else x0) → ps_At mJ9_min_7cf53 d 10 [] [.int w2] g Q := by
    rintro _ rfl
    refine sJ9_min_7cf53_10 ?_
    subst h
    exact ⟨rfl, hk⟩
  refine And.intro (fun hc1 => ?_) (fun hc1 => ?_)
  · refine sJ9_min_7cf53_9 ?_
    exact ps_weak (kJ3 _ (if_pos (hc1)).symm) trivial
  · exact ps_weak (kJ3 _ (if_neg (hc1)).symm) trivial
def fJ9_max_7cf53 (x0 : Int32) (x1 : Int32) : Int32 := (if x0 < x1 then x1 else x0)
theorem rJ9_max_7cf53 {d : Nat} {Q : ps_Rs → ps_G → Prop} {g : ps_G} {x0 : Int32} {x1 : Int32} {r : Int32} (h : fJ9_max_7cf53 x0 x1 = r) (hk : Q (.inl (some (.int r))) g) : ps_Ok mJ9_max_7cf53 d [.int x0, .int x1] g Q := by
  unfold fJ9_max_7cf53 at h
  refine sJ9_max_7cf53_0 ?_
  have kJ3 : ∀ w2 : Int32, w2 = (if x0 < x1 then x1 else x0) → ps_At mJ9_max_7cf53 d 10 [] [.int w2] g Q := by
    rintro _ rfl
    refine sJ9_max_7cf53_10 ?_
    subst h
    exact ⟨rfl, hk⟩
  refine And.intro (fun hc1 => ?_) (fun hc1 => ?_)
  · refine sJ9_max_7cf53_9 ?_
    exact ps_weak (kJ3 _ (if_pos (hc1)).symm) trivial
  · exact ps_weak (kJ3 _ (if_neg (hc1)).symm) trivial
noncomputable def fJ9_floorMod_7cf53 (g : ps_G) (x0 : Int32) (x1 : Int32) : Option (Int32) := Option.bind (q_mod x0 x1) fun v1 => if (0 ≤ (x0 ^^^ x1)) ∨ (v1 = 0) then (some v1) else (some (v1 + x1))
theorem rJ9_floorMod_7cf53 {d : Nat} {Q : ps_Rs → ps_G → Prop} {g : ps_G} {x0 : Int32} {x1 : Int32} {r : Int32} (h : fJ9_floorMod_7cf53 g x0 x1 = some r) (hk : Q (.inl (some (.int r))) g) : ps_Ok mJ9_floorMod_7cf53 d [.int x0, .int x1] g Q := by
  unfold fJ9_floorMod_7cf53 at h
  refine sJ9_floorMod_7cf53_0 ?_
  replace h := q_be h
  obtain ⟨v1, hv, h⟩ := h
  replace hv := q_mod_e hv
  obtain ⟨zv1, yv1⟩ := hv
  have kT4 : (some v1) = some r → ps_At mJ9_floorMod_7cf53 d 18 [(2, .int v1)] [] g Q := fun h => by
    refine sJ9_floorMod_7cf53_18 ?_
    cases h
    exact ⟨rfl, hk⟩
  refine ⟨zv1, _, yv1, by decide, ?_⟩
  refine And.intro (fun hc2 => ?_) (fun hc2 => ?_)
  · exact ps_weak (kT4 (q_ifp (Or.inl hc2) h)) ⟨rfl, trivial⟩
  · refine And.intro (fun hc3 => ?_) (fun hc3 => ?_)
    · exact ps_weak (kT4 (q_ifp (Or.inr (hc3)) h)) ⟨rfl, trivial⟩
    · replace h := q_ifn (not_or.mpr ⟨hc2, hc3⟩) h
      cases h
      exact ⟨rfl, hk⟩
def fJ9_min_f86c9 (x0 : Int64) (x2 : Int64) : Int64 := (if 0 < (lg_cmp x0 x2) then x2 else x0)
theorem rJ9_min_f86c9 {d : Nat} {Q : ps_Rs → ps_G → Prop} {g : ps_G} {x0 : Int64} {x2 : Int64} {r : Int64} (h : fJ9_min_f86c9 x0 x2 = r) (hk : Q (.inl (some (.long r))) g) : ps_Ok mJ9_min_f86c9 d [.long x0, .long x2] g Q := by
  unfold fJ9_min_f86c9 at h
  refine sJ9_min_f86c9_0 ?_
  have kJ3 : ∀ w2 : Int64, w2 = (if 0 < (lg_cmp x0 x2) then x2 else x0) → ps_At mJ9_min_f86c9 d 11 [] [.long w2] g Q := by
    rintro _ rfl
    refine sJ9_min_f86c9_11 ?_
    subst h
    exact ⟨rfl, rfl, hk⟩
  refine And.intro (fun hc1 => ?_) (fun hc1 => ?_)
  · refine sJ9_min_f86c9_10 ?_
    exact ps_weak (kJ3 _ (if_pos (hc1)).symm) trivial
  · exact ps_weak (kJ3 _ (if_neg (hc1)).symm) trivial
def fJ9_max_f86c9 (x0 : Int64) (x2 : Int64) : Int64 := (if (lg_cmp x0 x2) < 0 then x2 else x0)
theorem rJ9_max_f86c9 {d : Nat} {Q : ps_Rs → ps_G → Prop} {g : ps_G} {x0 : Int64} {x2 : Int64} {r : Int64} (h : fJ9_max_f86c9 x0 x2 = r) (hk : Q (.inl (some (.long r))) g) : ps_Ok mJ9_max_f86c9 d [.long x0, .long x2] g Q := by
  unfold fJ9_max_f86c9 at h
  refine sJ9_max_f86c9_0 ?_
  have kJ3 : ∀ w2 : Int64, w2 = (if (lg_cmp x0 x2) < 0 then x2 else x0) → ps_At mJ9_max_f86c9 d 11 [] [.long w2] g Q := by
    rintro _ rfl
    refine sJ9_max_f86c9_11 ?_
    subst h
    exact ⟨rfl, rfl, hk⟩
  refine And.intro (fun hc1 => ?_) (fun hc1 => ?_)
  · refine sJ9_max_f86c9_10 ?_
    exact ps_weak (kJ3 _ (if_pos (hc1)).symm) trivial
  · exact ps_weak (kJ3 _ (if_neg (hc1)).symm) trivial
