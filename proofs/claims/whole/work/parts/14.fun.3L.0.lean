/-! ===== the wrappers of the law ===== -/
noncomputable def q_wr {α : Type} (hs : List ps_H) (x : Option ((String ⊕ α) × ps_G)) (k : α → ps_G → Option (Int32 × ps_G)) : Option (Int32 × ps_G) := x.bind fun q => Sum.elim (fun E => (ps_hf hs E).bind fun y => some (y, q.2)) (fun v => k v q.2) q.1
theorem q_wr_e {α : Type} {hs : List ps_H} {x : Option ((String ⊕ α) × ps_G)} {k : α → ps_G → Option (Int32 × ps_G)} {r : Int32 × ps_G} (h : q_wr hs x k = some r) : (∃ E y g, x = some (.inl E, g) ∧ ps_hf hs E = some y ∧ r = (y, g)) ∨ (∃ v g, x = some (.inr v, g) ∧ k v g = some r) := by
  obtain ⟨⟨e, g⟩, h1, h2⟩ := q_be h
  cases e with
  | inl E =>
    obtain ⟨y, h3, h4⟩ := q_be h2
    exact Or.inl ⟨E, y, g, h1, h3, (Option.some.inj h4).symm⟩
  | inr v => exact Or.inr ⟨v, g, h1, h2⟩
theorem q_hfx {M : ps_M} {pc : Nat} {hs : List ps_H} {E : String} {y : Int32} (hk : ∀ h ∈ hs, ps_hk M pc h) (he : ps_hf hs E = some y) : E ∈ ps_xs := by
  unfold ps_hf at he
  cases e9 : hs.find? (fun h => h.1 == E) with
  | none => rw [e9] at he; cases he
  | some h0 =>
    have h1 := List.mem_of_find?_eq_some e9
    have h2 := List.find?_some e9
    have h3 : h0.1 = E := by simpa using h2
    rw [← h3]; exact (hk h0 h1).1
noncomputable def fL_feed (g : ps_G) (x0 : Nat) (x1 : Int32) (x2 : Int32) (x3 : Int32) (x4 : Int32) (x5 : Int32) (x6 : Nat) : Option (Int32 × ps_G) := Option.bind (q_ob 11 g x0) fun _ => q_wr hL_feed (fX11_feed g x0 x1 x2 x3 x4 x5) (fun v g1 => Option.bind (q_wL g1 x6 (0 : Int32) (Int32.toInt64 v)) fun g2 => some ((0 : Int32), g2))
theorem rL_feed {d : Nat} {Q : ps_Rs → ps_G → Prop} {g : ps_G} {x0 : Nat} {x1 : Int32} {x2 : Int32} {x3 : Int32} {x4 : Int32} {x5 : Int32} {x6 : Nat} {r : Int32 × ps_G} (h : fL_feed g x0 x1 x2 x3 x4 x5 x6 = some r) (hk : Q (.inl (some (.int r.1))) r.2) : ps_Ok mL_feed (d + 7) [.ref x0, .int x1, .int x2, .int x3, .int x4, .int x5, .ref x6] g Q := by
  unfold fL_feed at h
  replace h := q_be h
  obtain ⟨u, hv, h⟩ := h
  replace hv := q_ob_e hv
  obtain ⟨_, cu⟩ := hv
  refine sL_feed_0 ?_
  refine ⟨⟨some _, rfl⟩, ⟨some _, rfl⟩, ?_⟩
  refine ps_invvH (M := mL_feed) (M' := mX11_feed) (pc := 11) (av := [.int x1, .int x2, .int x3, .int x4, .int x5]) (rest := [.int (0 : Int32), .ref x6]) hL_feed (by decide +kernel) lX11_feed ps_w3_233 ps_w3_234 ps_w3_235 ⟨_, _, rfl⟩ cu rfl (Nat.le_of_ble_eq_true rfl) (Nat.le_of_ble_eq_true rfl) rfl kL_feed rfl ?_
  rcases q_wr_e h with ⟨E, k, g1, hv, he, rfl⟩ | ⟨v, g1, hv, h⟩
  · exact rX11_feed hv ⟨q_hfx kL_feed he, _, he, hk⟩
  refine rX11_feed hv ?_
  refine sL_feed_14 ?_
  replace h := q_be h
  obtain ⟨g2, hv, h⟩ := h
  replace hv := q_wL_e hv
  obtain ⟨_, _, cg, ig, yg⟩ := hv
  cases h
  refine ⟨_, _, cg, ig, _, yg, ?_⟩
  refine sL_feed_23 ?_
  exact ⟨rfl, hk⟩
noncomputable def fL_end (g : ps_G) (x0 : Nat) (x1 : Int32) (x2 : Nat) : Option (Int32 × ps_G) := Option.bind (q_ob 11 g x0) fun _ => q_wr hL_end (fX11_end g x0 x1) (fun v g1 => Option.bind (q_wL g1 x2 (0 : Int32) (Int32.toInt64 v)) fun g2 => some ((0 : Int32), g2))
theorem rL_end {d : Nat} {Q : ps_Rs → ps_G → Prop} {g : ps_G} {x0 : Nat} {x1 : Int32} {x2 : Nat} {r : Int32 × ps_G} (h : fL_end g x0 x1 x2 = some r) (hk : Q (.inl (some (.int r.1))) r.2) : ps_Ok mL_end (d + 8) [.ref x0, .int x1, .ref x2] g Q := by
  unfold fL_end at h
  replace h := q_be h
  obtain ⟨u, hv, h⟩ := h
  replace hv := q_ob_e hv
  obtain ⟨_, cu⟩ := hv
  refine sL_end_0 ?_
  refine ⟨⟨some _, rfl⟩, ⟨some _, rfl⟩, ?_⟩
  refine ps_invvH (M := mL_end) (M' := mX11_end) (pc := 4) (av := [.int x1]) (rest := [.int (0 : Int32), .ref x2]) hL_end (by decide +kernel) lX11_end ps_w4_75 ps_w4_76 ps_w4_77 ⟨_, _, rfl⟩ cu rfl (Nat.le_of_ble_eq_true rfl) (Nat.le_of_ble_eq_true rfl) rfl kL_end rfl ?_
  rcases q_wr_e h with ⟨E, k, g1, hv, he, rfl⟩ | ⟨v, g1, hv, h⟩
  · exact rX11_end hv ⟨q_hfx kL_end he, _, he, hk⟩
  refine rX11_end hv ?_
  refine sL_end_7 ?_
  replace h := q_be h
  obtain ⟨g2, hv, h⟩ := h
  replace hv := q_wL_e hv
  obtain ⟨_, _, cg, ig, yg⟩ := hv
  cases h
  refine ⟨_, _, cg, ig, _, yg, ?_⟩
  refine sL_end_15 ?_
  exact ⟨rfl, hk⟩
noncomputable def fL_open (g : ps_G) (x0 : Nat) (x1 : Int32) (x2 : Int32) : Option (Int32 × ps_G) := Option.bind (q_ob 11 g x0) fun _ => q_wr hL_open (fX11_open g x0 x1 x2) (fun v g1 => some ((0 : Int32), g1))
theorem rL_open {d : Nat} {Q : ps_Rs → ps_G → Prop} {g : ps_G} {x0 : Nat} {x1 : Int32} {x2 : Int32} {r : Int32 × ps_G} (h : fL_open g x0 x1 x2 = some r) (hk : Q (.inl (some (.int r.1))) r.2) : ps_Ok mL_open (d + 8) [.ref x0, .int x1, .int x2] g Q := by
  unfold fL_open at h
  replace h := q_be h
  obtain ⟨u, hv, h⟩ := h
  replace hv := q_ob_e hv
  obtain ⟨_, cu⟩ := hv
  refine sL_open_0 ?_
  refine ⟨⟨some _, rfl⟩, ?_⟩
  refine ps_invvH (M := mL_open) (M' := mX11_open) (pc := 3) (av := [.int x1, .int x2]) (rest := []) hL_open (by decide +kernel) lX11_open ps_w4_101 ps_w4_102 ps_w4_103 ⟨_, _, rfl⟩ cu rfl (Nat.le_of_ble_eq_true rfl) (Nat.le_of_ble_eq_true rfl) rfl kL_open rfl ?_
  rcases q_wr_e h with ⟨E, k, g1, hv, he, rfl⟩ | ⟨v, g1, hv, h⟩
  · exact rX11_open hv ⟨q_hfx kL_open he, _, he, hk⟩
  refine rX11_open hv ?_
  refine sL_open_6 ?_
  cases h
  refine sL_open_12 ?_
  exact ⟨rfl, hk⟩
noncomputable def fL_layer (g : ps_G) (x0 : Nat) (x1 : Int32) (x2 : Int32) (x3 : Int32) (x4 : Nat) : Option (Int32 × ps_G) := Option.bind (q_ob 11 g x0) fun _ => q_wr hL_layer (fX11_layer g x0 x1 x2 x3) (fun v g1 => Option.bind (q_wL g1 x4 (0 : Int32) (Int32.toInt64 v)) fun g2 => some ((0 : Int32), g2))
theorem rL_layer {d : Nat} {Q : ps_Rs → ps_G → Prop} {g : ps_G} {x0 : Nat} {x1 : Int32} {x2 : Int32} {x3 : Int32} {x4 : Nat} {r : Int32 × ps_G} (h : fL_layer g x0 x1 x2 x3 x4 = some r) (hk : Q (.inl (some (.int r.1))) r.2) : ps_Ok mL_layer (d + 8) [.ref x0, .int x1, .int x2, .int x3, .ref x4] g Q := by
  unfold fL_layer at h
  replace h := q_be h
  obtain ⟨u, hv, h⟩ := h
  replace hv := q_ob_e hv
  obtain ⟨_, cu⟩ := hv
  refine sL_layer_0 ?_
  refine ⟨⟨some _, rfl⟩, ⟨some _, rfl⟩, ?_⟩
  refine ps_invvH (M := mL_layer) (M' := mX11_layer) (pc := 7) (av := [.int x1, .int x2, .int x3]) (rest := [.int (0 : Int32), .ref x4]) hL_layer (by decide +kernel) lX11_layer ps_w4_118 ps_w4_119 ps_w4_120 ⟨_, _, rfl⟩ cu rfl (Nat.le_of_ble_eq_true rfl) (Nat.le_of_ble_eq_true rfl) rfl kL_layer rfl ?_
  rcases q_wr_e h with ⟨E, k, g1, hv, he, rfl⟩ | ⟨v, g1, hv, h⟩
  · exact rX11_layer hv ⟨q_hfx kL_layer he, _, he, hk⟩
  refine rX11_layer hv ?_
  refine sL_layer_10 ?_
  replace h := q_be h
  obtain ⟨g2, hv, h⟩ := h
  replace hv := q_wL_e hv
  obtain ⟨_, _, cg, ig, yg⟩ := hv
  cases h
  refine ⟨_, _, cg, ig, _, yg, ?_⟩
  refine sL_layer_27 ?_
  exact ⟨rfl, hk⟩
noncomputable def fL_drop (g : ps_G) (x0 : Nat) (x1 : Int32) : Option (Int32 × ps_G) := Option.bind (q_ob 11 g x0) fun _ => q_wr hL_drop (fX11_drop g x0 x1) (fun v g1 => some ((0 : Int32), g1))
theorem rL_drop {d : Nat} {Q : ps_Rs → ps_G → Prop} {g : ps_G} {x0 : Nat} {x1 : Int32} {r : Int32 × ps_G} (h : fL_drop g x0 x1 = some r) (hk : Q (.inl (some (.int r.1))) r.2) : ps_Ok mL_drop (d + 8) [.ref x0, .int x1] g Q := by
  unfold fL_drop at h
  replace h := q_be h
  obtain ⟨u, hv, h⟩ := h
  replace hv := q_ob_e hv
  obtain ⟨_, cu⟩ := hv
  refine sL_drop_0 ?_
  refine ⟨⟨some _, rfl⟩, ?_⟩
  refine ps_invvH (M := mL_drop) (M' := mX11_drop) (pc := 2) (av := [.int x1]) (rest := []) hL_drop (by decide +kernel) lX11_drop ps_w5_38 ps_w5_39 ps_w5_40 ⟨_, _, rfl⟩ cu rfl (Nat.le_of_ble_eq_true rfl) (Nat.le_of_ble_eq_true rfl) rfl kL_drop rfl ?_
  rcases q_wr_e h with ⟨E, k, g1, hv, he, rfl⟩ | ⟨v, g1, hv, h⟩
  · exact rX11_drop hv ⟨q_hfx kL_drop he, _, he, hk⟩
  refine rX11_drop hv ?_
  refine sL_drop_5 ?_
  cases h
  refine sL_drop_11 ?_
  exact ⟨rfl, hk⟩
noncomputable def fL_move (g : ps_G) (x0 : Nat) (x1 : Int32) (x2 : Int32) (x3 : Int32) : Option (Int32 × ps_G) := Option.bind (q_ob 11 g x0) fun _ => q_wr hL_move (fX11_move g x0 x1 x2 x3) (fun v g1 => some ((0 : Int32), g1))
theorem rL_move {d : Nat} {Q : ps_Rs → ps_G → Prop} {g : ps_G} {x0 : Nat} {x1 : Int32} {x2 : Int32} {x3 : Int32} {r : Int32 × ps_G} (h : fL_move g x0 x1 x2 x3 = some r) (hk : Q (.inl (some (.int r.1))) r.2) : ps_Ok mL_move (d + 8) [.ref x0, .int x1, .int x2, .int x3] g Q := by
  unfold fL_move at h
  replace h := q_be h
  obtain ⟨u, hv, h⟩ := h
  replace hv := q_ob_e hv
  obtain ⟨_, cu⟩ := hv
  refine sL_move_0 ?_
  refine ⟨⟨some _, rfl⟩, ?_⟩
  refine ps_invvH (M := mL_move) (M' := mX11_move) (pc := 4) (av := [.int x1, .int x2, .int x3]) (rest := []) hL_move (by decide +kernel) lX11_move ps_w5_65 ps_w5_66 ps_w5_67 ⟨_, _, rfl⟩ cu rfl (Nat.le_of_ble_eq_true rfl) (Nat.le_of_ble_eq_true rfl) rfl kL_move rfl ?_
  rcases q_wr_e h with ⟨E, k, g1, hv, he, rfl⟩ | ⟨v, g1, hv, h⟩
  · exact rX11_move hv ⟨q_hfx kL_move he, _, he, hk⟩
  refine rX11_move hv ?_
  refine sL_move_7 ?_
  cases h
  refine sL_move_22 ?_
  exact ⟨rfl, hk⟩
noncomputable def fL_set (g : ps_G) (x0 : Nat) (x1 : Int32) (x2 : Int32) (x3 : Int32) : Option (Int32 × ps_G) := Option.bind (q_ob 11 g x0) fun _ => q_wr hL_set (fX11_set g x0 x1 x2 x3) (fun v g1 => some ((0 : Int32), g1))
theorem rL_set {d : Nat} {Q : ps_Rs → ps_G → Prop} {g : ps_G} {x0 : Nat} {x1 : Int32} {x2 : Int32} {x3 : Int32} {r : Int32 × ps_G} (h : fL_set g x0 x1 x2 x3 = some r) (hk : Q (.inl (some (.int r.1))) r.2) : ps_Ok mL_set (d + 8) [.ref x0, .int x1, .int x2, .int x3] g Q := by
  unfold fL_set at h
  replace h := q_be h
  obtain ⟨u, hv, h⟩ := h
  replace hv := q_ob_e hv
  obtain ⟨_, cu⟩ := hv
  refine sL_set_0 ?_
  refine ⟨⟨some _, rfl⟩, ?_⟩
  refine ps_invvH (M := mL_set) (M' := mX11_set) (pc := 4) (av := [.int x1, .int x2, .int x3]) (rest := []) hL_set (by decide +kernel) lX11_set ps_w5_100 ps_w5_101 ps_w5_102 ⟨_, _, rfl⟩ cu rfl (Nat.le_of_ble_eq_true rfl) (Nat.le_of_ble_eq_true rfl) rfl kL_set rfl ?_
  rcases q_wr_e h with ⟨E, k, g1, hv, he, rfl⟩ | ⟨v, g1, hv, h⟩
  · exact rX11_set hv ⟨q_hfx kL_set he, _, he, hk⟩
  refine rX11_set hv ?_
  refine sL_set_7 ?_
  cases h
  refine sL_set_18 ?_
  exact ⟨rfl, hk⟩
noncomputable def fL_mask (g : ps_G) (x0 : Nat) (x1 : Int32) (x2 : Int32) : Option (Int32 × ps_G) := Option.bind (q_ob 11 g x0) fun _ => q_wr hL_mask (fX11_mask g x0 x1 x2) (fun v g1 => some ((0 : Int32), g1))
theorem rL_mask {d : Nat} {Q : ps_Rs → ps_G → Prop} {g : ps_G} {x0 : Nat} {x1 : Int32} {x2 : Int32} {r : Int32 × ps_G} (h : fL_mask g x0 x1 x2 = some r) (hk : Q (.inl (some (.int r.1))) r.2) : ps_Ok mL_mask (d + 8) [.ref x0, .int x1, .int x2] g Q := by
  unfold fL_mask at h
  replace h := q_be h
  obtain ⟨u, hv, h⟩ := h
  replace hv := q_ob_e hv
  obtain ⟨_, cu⟩ := hv
  refine sL_mask_0 ?_
  refine ⟨⟨some _, rfl⟩, ?_⟩
  refine ps_invvH (M := mL_mask) (M' := mX11_mask) (pc := 3) (av := [.int x1, .int x2]) (rest := []) hL_mask (by decide +kernel) lX11_mask ps_w5_112 ps_w5_113 ps_w5_114 ⟨_, _, rfl⟩ cu rfl (Nat.le_of_ble_eq_true rfl) (Nat.le_of_ble_eq_true rfl) rfl kL_mask rfl ?_
  rcases q_wr_e h with ⟨E, k, g1, hv, he, rfl⟩ | ⟨v, g1, hv, h⟩
  · exact rX11_mask hv ⟨q_hfx kL_mask he, _, he, hk⟩
  refine rX11_mask hv ?_
  refine sL_mask_6 ?_
  cases h
  refine sL_mask_18 ?_
  exact ⟨rfl, hk⟩
noncomputable def fL_colours (g : ps_G) (x0 : Nat) (x1 : Int32) (x2 : Int32) (x3 : Int32) : Option (Int32 × ps_G) := Option.bind (q_ob 11 g x0) fun _ => q_wr hL_colours (fX11_colours g x0 x1 x2 x3) (fun v g1 => some ((0 : Int32), g1))
theorem rL_colours {d : Nat} {Q : ps_Rs → ps_G → Prop} {g : ps_G} {x0 : Nat} {x1 : Int32} {x2 : Int32} {x3 : Int32} {r : Int32 × ps_G} (h : fL_colours g x0 x1 x2 x3 = some r) (hk : Q (.inl (some (.int r.1))) r.2) : ps_Ok mL_colours (d + 9) [.ref x0, .int x1, .int x2, .int x3] g Q := by
  unfold fL_colours at h
  replace h := q_be h
  obtain ⟨u, hv, h⟩ := h
  replace hv := q_ob_e hv
  obtain ⟨_, cu⟩ := hv
  refine sL_colours_0 ?_
  refine ⟨⟨some _, rfl⟩, ?_⟩
  refine ps_invvH (M := mL_colours) (M' := mX11_colours) (pc := 4) (av := [.int x1, .int x2, .int x3]) (rest := []) hL_colours (by decide +kernel) lX11_colours ps_w5_120 ps_w5_121 ps_w5_122 ⟨_, _, rfl⟩ cu rfl (Nat.le_of_ble_eq_true rfl) (Nat.le_of_ble_eq_true rfl) rfl kL_colours rfl ?_
  rcases q_wr_e h with ⟨E, k, g1, hv, he, rfl⟩ | ⟨v, g1, hv, h⟩
  · exact rX11_colours hv ⟨q_hfx kL_colours he, _, he, hk⟩
  refine rX11_colours hv ?_
  refine sL_colours_7 ?_
  cases h
  refine sL_colours_18 ?_
  exact ⟨rfl, hk⟩
noncomputable def fL_ramp (g : ps_G) (x0 : Nat) (x1 : Int32) (x2 : Int32) (x3 : Int32) (x4 : Int32) (x5 : Int32) : Option (Int32 × ps_G) := Option.bind (q_ob 11 g x0) fun _ => q_wr hL_ramp (fX11_ramp g x0 x1 x2 x3 x4 x5) (fun v g1 => some ((0 : Int32), g1))
theorem rL_ramp {d : Nat} {Q : ps_Rs → ps_G → Prop} {g : ps_G} {x0 : Nat} {x1 : Int32} {x2 : Int32} {x3 : Int32} {x4 : Int32} {x5 : Int32} {r : Int32 × ps_G} (h : fL_ramp g x0 x1 x2 x3 x4 x5 = some r) (hk : Q (.inl (some (.int r.1))) r.2) : ps_Ok mL_ramp (d + 8) [.ref x0, .int x1, .int x2, .int x3, .int x4, .int x5] g Q := by
  unfold fL_ramp at h
  replace h := q_be h
  obtain ⟨u, hv, h⟩ := h
  replace hv := q_ob_e hv
  obtain ⟨_, cu⟩ := hv
  refine sL_ramp_0 ?_
  refine ⟨⟨some _, rfl⟩, ?_⟩
  refine ps_invvH (M := mL_ramp) (M' := mX11_ramp) (pc := 8) (av := [.int x1, .int x2, .int x3, .int x4, .int x5]) (rest := []) hL_ramp (by decide +kernel) lX11_ramp ps_w5_136 ps_w5_137 ps_w5_138 ⟨_, _, rfl⟩ cu rfl (Nat.le_of_ble_eq_true rfl) (Nat.le_of_ble_eq_true rfl) rfl kL_ramp rfl ?_
  rcases q_wr_e h with ⟨E, k, g1, hv, he, rfl⟩ | ⟨v, g1, hv, h⟩
  · exact rX11_ramp hv ⟨q_hfx kL_ramp he, _, he, hk⟩
  refine rX11_ramp hv ?_
  refine sL_ramp_11 ?_
  cases h
  refine sL_ramp_22 ?_
  exact ⟨rfl, hk⟩
noncomputable def fL_turn (g : ps_G) (x0 : Nat) (x1 : Int32) (x2 : Int32) : Option (Int32 × ps_G) := Option.bind (q_ob 11 g x0) fun _ => q_wr hL_turn (fX11_turn g x0 x1 x2) (fun v g1 => some ((0 : Int32), g1))
theorem rL_turn {d : Nat} {Q : ps_Rs → ps_G → Prop} {g : ps_G} {x0 : Nat} {x1 : Int32} {x2 : Int32} {r : Int32 × ps_G} (h : fL_turn g x0 x1 x2 = some r) (hk : Q (.inl (some (.int r.1))) r.2) : ps_Ok mL_turn (d + 9) [.ref x0, .int x1, .int x2] g Q := by
  unfold fL_turn at h
  replace h := q_be h
  obtain ⟨u, hv, h⟩ := h
  replace hv := q_ob_e hv
  obtain ⟨_, cu⟩ := hv
  refine sL_turn_0 ?_
  refine ⟨⟨some _, rfl⟩, ?_⟩
  refine ps_invvH (M := mL_turn) (M' := mX11_turn) (pc := 3) (av := [.int x1, .int x2]) (rest := []) hL_turn (by decide +kernel) lX11_turn ps_w5_143 ps_w5_144 ps_w5_145 ⟨_, _, rfl⟩ cu rfl (Nat.le_of_ble_eq_true rfl) (Nat.le_of_ble_eq_true rfl) rfl kL_turn rfl ?_
  rcases q_wr_e h with ⟨E, k, g1, hv, he, rfl⟩ | ⟨v, g1, hv, h⟩
  · exact rX11_turn hv ⟨q_hfx kL_turn he, _, he, hk⟩
  refine rX11_turn hv ?_
  refine sL_turn_6 ?_
  cases h
  refine sL_turn_18 ?_
  exact ⟨rfl, hk⟩
noncomputable def fL_scale (g : ps_G) (x0 : Nat) (x1 : Int32) (x2 : Int32) (x3 : Int32) (x4 : Int32) : Option (Int32 × ps_G) := Option.bind (q_ob 11 g x0) fun _ => q_wr hL_scale (fX11_scale g x0 x1 x2 x3 x4) (fun v g1 => some ((0 : Int32), g1))
theorem rL_scale {d : Nat} {Q : ps_Rs → ps_G → Prop} {g : ps_G} {x0 : Nat} {x1 : Int32} {x2 : Int32} {x3 : Int32} {x4 : Int32} {r : Int32 × ps_G} (h : fL_scale g x0 x1 x2 x3 x4 = some r) (hk : Q (.inl (some (.int r.1))) r.2) : ps_Ok mL_scale (d + 9) [.ref x0, .int x1, .int x2, .int x3, .int x4] g Q := by
  unfold fL_scale at h
  replace h := q_be h
  obtain ⟨u, hv, h⟩ := h
  replace hv := q_ob_e hv
  obtain ⟨_, cu⟩ := hv
  refine sL_scale_0 ?_
  refine ⟨⟨some _, rfl⟩, ?_⟩
  refine ps_invvH (M := mL_scale) (M' := mX11_scale) (pc := 6) (av := [.int x1, .int x2, .int x3, .int x4]) (rest := []) hL_scale (by decide +kernel) lX11_scale ps_w5_160 ps_w5_161 ps_w5_162 ⟨_, _, rfl⟩ cu rfl (Nat.le_of_ble_eq_true rfl) (Nat.le_of_ble_eq_true rfl) rfl kL_scale rfl ?_
  rcases q_wr_e h with ⟨E, k, g1, hv, he, rfl⟩ | ⟨v, g1, hv, h⟩
  · exact rX11_scale hv ⟨q_hfx kL_scale he, _, he, hk⟩
  refine rX11_scale hv ?_
  refine sL_scale_9 ?_
  cases h
  refine sL_scale_20 ?_
  exact ⟨rfl, hk⟩
noncomputable def fL_flat (g : ps_G) (x0 : Nat) (x1 : Int32) : Option (Int32 × ps_G) := Option.bind (q_ob 11 g x0) fun _ => q_wr hL_flat (fX11_flat g x0 x1) (fun v g1 => some ((0 : Int32), g1))
theorem rL_flat {d : Nat} {Q : ps_Rs → ps_G → Prop} {g : ps_G} {x0 : Nat} {x1 : Int32} {r : Int32 × ps_G} (h : fL_flat g x0 x1 = some r) (hk : Q (.inl (some (.int r.1))) r.2) : ps_Ok mL_flat (d + 103) [.ref x0, .int x1] g Q := by
  unfold fL_flat at h
  replace h := q_be h
  obtain ⟨u, hv, h⟩ := h
  replace hv := q_ob_e hv
  obtain ⟨_, cu⟩ := hv
  refine sL_flat_0 ?_
  refine ⟨⟨some _, rfl⟩, ?_⟩
  refine ps_invvH (M := mL_flat) (M' := mX11_flat) (pc := 2) (av := [.int x1]) (rest := []) hL_flat (by decide +kernel) lX11_flat ps_w5_176 ps_w5_177 ps_w5_178 ⟨_, _, rfl⟩ cu rfl (Nat.le_of_ble_eq_true rfl) (Nat.le_of_ble_eq_true rfl) rfl kL_flat rfl ?_
  rcases q_wr_e h with ⟨E, k, g1, hv, he, rfl⟩ | ⟨v, g1, hv, h⟩
  · exact rX11_flat hv ⟨q_hfx kL_flat he, _, he, hk⟩
  refine rX11_flat hv ?_
  refine sL_flat_5 ?_
  cases h
  refine sL_flat_14 ?_
  exact ⟨rfl, hk⟩
noncomputable def fL_fill (g : ps_G) (x0 : Nat) (x1 : Int32) (x2 : Int32) (x3 : Nat) : Option (Int32 × ps_G) := Option.bind (q_ob 11 g x0) fun _ => q_wr hL_fill (fX11_fill g x0 x1 x2) (fun v g1 => Option.bind (q_wL g1 x3 (0 : Int32) (Int32.toInt64 v)) fun g2 => some ((0 : Int32), g2))
theorem rL_fill {d : Nat} {Q : ps_Rs → ps_G → Prop} {g : ps_G} {x0 : Nat} {x1 : Int32} {x2 : Int32} {x3 : Nat} {r : Int32 × ps_G} (h : fL_fill g x0 x1 x2 x3 = some r) (hk : Q (.inl (some (.int r.1))) r.2) : ps_Ok mL_fill (d + 9) [.ref x0, .int x1, .int x2, .ref x3] g Q := by
  unfold fL_fill at h
  replace h := q_be h
  obtain ⟨u, hv, h⟩ := h
  replace hv := q_ob_e hv
  obtain ⟨_, cu⟩ := hv
  refine sL_fill_0 ?_
  refine ⟨⟨some _, rfl⟩, ⟨some _, rfl⟩, ?_⟩
  refine ps_invvH (M := mL_fill) (M' := mX11_fill) (pc := 5) (av := [.int x1, .int x2]) (rest := [.int (0 : Int32), .ref x3]) hL_fill (by decide +kernel) lX11_fill ps_w5_198 ps_w5_199 ps_w5_200 ⟨_, _, rfl⟩ cu rfl (Nat.le_of_ble_eq_true rfl) (Nat.le_of_ble_eq_true rfl) rfl kL_fill rfl ?_
  rcases q_wr_e h with ⟨E, k, g1, hv, he, rfl⟩ | ⟨v, g1, hv, h⟩
  · exact rX11_fill hv ⟨q_hfx kL_fill he, _, he, hk⟩
  refine rX11_fill hv ?_
  refine sL_fill_8 ?_
  replace h := q_be h
  obtain ⟨g2, hv, h⟩ := h
  replace hv := q_wL_e hv
  obtain ⟨_, _, cg, ig, yg⟩ := hv
  cases h
  refine ⟨_, _, cg, ig, _, yg, ?_⟩
  refine sL_fill_21 ?_
  exact ⟨rfl, hk⟩
noncomputable def fL_merge (g : ps_G) (x0 : Nat) (x1 : Int32) : Option (Int32 × ps_G) := Option.bind (q_ob 11 g x0) fun _ => q_wr hL_merge (fX11_merge g x0 x1) (fun v g1 => some ((0 : Int32), g1))
theorem rL_merge {d : Nat} {Q : ps_Rs → ps_G → Prop} {g : ps_G} {x0 : Nat} {x1 : Int32} {r : Int32 × ps_G} (h : fL_merge g x0 x1 = some r) (hk : Q (.inl (some (.int r.1))) r.2) : ps_Ok mL_merge (d + 104) [.ref x0, .int x1] g Q := by
  unfold fL_merge at h
  replace h := q_be h
  obtain ⟨u, hv, h⟩ := h
  replace hv := q_ob_e hv
  obtain ⟨_, cu⟩ := hv
  refine sL_merge_0 ?_
  refine ⟨⟨some _, rfl⟩, ?_⟩
  refine ps_invvH (M := mL_merge) (M' := mX11_merge) (pc := 2) (av := [.int x1]) (rest := []) hL_merge (by decide +kernel) lX11_merge ps_w5_223 ps_w5_224 ps_w5_225 ⟨_, _, rfl⟩ cu rfl (Nat.le_of_ble_eq_true rfl) (Nat.le_of_ble_eq_true rfl) rfl kL_merge rfl ?_
  rcases q_wr_e h with ⟨E, k, g1, hv, he, rfl⟩ | ⟨v, g1, hv, h⟩
  · exact rX11_merge hv ⟨q_hfx kL_merge he, _, he, hk⟩
  refine rX11_merge hv ?_
  refine sL_merge_5 ?_
  cases h
  refine sL_merge_14 ?_
  exact ⟨rfl, hk⟩
noncomputable def fL_stroke (g : ps_G) (x0 : Nat) (x1 : Int32) (x2 : Int32) (x3 : Nat) : Option (Int32 × ps_G) := Option.bind (q_ob 11 g x0) fun _ => q_wr hL_stroke (fX11_stroke g x0 x1 x2) (fun v g1 => Option.bind (q_wL g1 x3 (0 : Int32) (Int32.toInt64 v)) fun g2 => some ((0 : Int32), g2))
theorem rL_stroke {d : Nat} {Q : ps_Rs → ps_G → Prop} {g : ps_G} {x0 : Nat} {x1 : Int32} {x2 : Int32} {x3 : Nat} {r : Int32 × ps_G} (h : fL_stroke g x0 x1 x2 x3 = some r) (hk : Q (.inl (some (.int r.1))) r.2) : ps_Ok mL_stroke (d + 9) [.ref x0, .int x1, .int x2, .ref x3] g Q := by
  unfold fL_stroke at h
  replace h := q_be h
  obtain ⟨u, hv, h⟩ := h
  replace hv := q_ob_e hv
  obtain ⟨_, cu⟩ := hv
  refine sL_stroke_0 ?_
  refine ⟨⟨some _, rfl⟩, ⟨some _, rfl⟩, ?_⟩
  refine ps_invvH (M := mL_stroke) (M' := mX11_stroke) (pc := 5) (av := [.int x1, .int x2]) (rest := [.int (0 : Int32), .ref x3]) hL_stroke (by decide +kernel) lX11_stroke ps_w5_239 ps_w6_0 ps_w6_1 ⟨_, _, rfl⟩ cu rfl (Nat.le_of_ble_eq_true rfl) (Nat.le_of_ble_eq_true rfl) rfl kL_stroke rfl ?_
  rcases q_wr_e h with ⟨E, k, g1, hv, he, rfl⟩ | ⟨v, g1, hv, h⟩
  · exact rX11_stroke hv ⟨q_hfx kL_stroke he, _, he, hk⟩
  refine rX11_stroke hv ?_
  refine sL_stroke_8 ?_
  replace h := q_be h
  obtain ⟨g2, hv, h⟩ := h
  replace hv := q_wL_e hv
  obtain ⟨_, _, cg, ig, yg⟩ := hv
  cases h
  refine ⟨_, _, cg, ig, _, yg, ?_⟩
  refine sL_stroke_25 ?_
  exact ⟨rfl, hk⟩
noncomputable def fL_filter (g : ps_G) (x0 : Nat) (x1 : Int32) (x2 : Int32) (x3 : Int32) (x4 : Nat) : Option (Int32 × ps_G) := Option.bind (q_ob 11 g x0) fun _ => q_wr hL_filter (fX11_filter g x0 x1 x2 x3) (fun v g1 => Option.bind (q_wL g1 x4 (0 : Int32) (Int32.toInt64 v)) fun g2 => some ((0 : Int32), g2))
theorem rL_filter {d : Nat} {Q : ps_Rs → ps_G → Prop} {g : ps_G} {x0 : Nat} {x1 : Int32} {x2 : Int32} {x3 : Int32} {x4 : Nat} {r : Int32 × ps_G} (h : fL_filter g x0 x1 x2 x3 x4 = some r) (hk : Q (.inl (some (.int r.1))) r.2) : ps_Ok mL_filter (d + 9) [.ref x0, .int x1, .int x2, .int x3, .ref x4] g Q := by
  unfold fL_filter at h
  replace h := q_be h
  obtain ⟨u, hv, h⟩ := h
  replace hv := q_ob_e hv
  obtain ⟨_, cu⟩ := hv
  refine sL_filter_0 ?_
  refine ⟨⟨some _, rfl⟩, ⟨some _, rfl⟩, ?_⟩
  refine ps_invvH (M := mL_filter) (M' := mX11_filter) (pc := 7) (av := [.int x1, .int x2, .int x3]) (rest := [.int (0 : Int32), .ref x4]) hL_filter (by decide +kernel) lX11_filter ps_w6_28 ps_w6_29 ps_w6_30 ⟨_, _, rfl⟩ cu rfl (Nat.le_of_ble_eq_true rfl) (Nat.le_of_ble_eq_true rfl) rfl kL_filter rfl ?_
  rcases q_wr_e h with ⟨E, k, g1, hv, he, rfl⟩ | ⟨v, g1, hv, h⟩
  · exact rX11_filter hv ⟨q_hfx kL_filter he, _, he, hk⟩
  refine rX11_filter hv ?_
  refine sL_filter_10 ?_
  replace h := q_be h
  obtain ⟨g2, hv, h⟩ := h
  replace hv := q_wL_e hv
  obtain ⟨_, _, cg, ig, yg⟩ := hv
  cases h
  refine ⟨_, _, cg, ig, _, yg, ?_⟩
  refine sL_filter_23 ?_
  exact ⟨rfl, hk⟩
noncomputable def fL_path (g : ps_G) (x0 : Nat) (x1 : Int32) (x2 : Int32) (x3 : Int32) (x4 : Nat) : Option (Int32 × ps_G) := Option.bind (q_ob 11 g x0) fun _ => q_wr hL_path (fX11_path g x0 x1 x2 x3) (fun v g1 => Option.bind (q_wL g1 x4 (0 : Int32) (Int32.toInt64 v)) fun g2 => some ((0 : Int32), g2))
theorem rL_path {d : Nat} {Q : ps_Rs → ps_G → Prop} {g : ps_G} {x0 : Nat} {x1 : Int32} {x2 : Int32} {x3 : Int32} {x4 : Nat} {r : Int32 × ps_G} (h : fL_path g x0 x1 x2 x3 x4 = some r) (hk : Q (.inl (some (.int r.1))) r.2) : ps_Ok mL_path (d + 9) [.ref x0, .int x1, .int x2, .int x3, .ref x4] g Q := by
  unfold fL_path at h
  replace h := q_be h
  obtain ⟨u, hv, h⟩ := h
  replace hv := q_ob_e hv
  obtain ⟨_, cu⟩ := hv
  refine sL_path_0 ?_
  refine ⟨⟨some _, rfl⟩, ⟨some _, rfl⟩, ?_⟩
  refine ps_invvH (M := mL_path) (M' := mX11_path) (pc := 7) (av := [.int x1, .int x2, .int x3]) (rest := [.int (0 : Int32), .ref x4]) hL_path (by decide +kernel) lX11_path ps_w6_35 ps_w6_36 ps_w6_37 ⟨_, _, rfl⟩ cu rfl (Nat.le_of_ble_eq_true rfl) (Nat.le_of_ble_eq_true rfl) rfl kL_path rfl ?_
  rcases q_wr_e h with ⟨E, k, g1, hv, he, rfl⟩ | ⟨v, g1, hv, h⟩
  · exact rX11_path hv ⟨q_hfx kL_path he, _, he, hk⟩
  refine rX11_path hv ?_
  refine sL_path_10 ?_
  replace h := q_be h
  obtain ⟨g2, hv, h⟩ := h
  replace hv := q_wL_e hv
  obtain ⟨_, _, cg, ig, yg⟩ := hv
  cases h
  refine ⟨_, _, cg, ig, _, yg, ?_⟩
  refine sL_path_23 ?_
  exact ⟨rfl, hk⟩
noncomputable def fL_text (g : ps_G) (x0 : Nat) (x1 : Int32) (x2 : Int32) (x3 : Int32) (x4 : Nat) : Option (Int32 × ps_G) := Option.bind (q_ob 11 g x0) fun _ => q_wr hL_text (fX11_text g x0 x1 x2 x3) (fun v g1 => Option.bind (q_wL g1 x4 (0 : Int32) (Int32.toInt64 v)) fun g2 => some ((0 : Int32), g2))
theorem rL_text {d : Nat} {Q : ps_Rs → ps_G → Prop} {g : ps_G} {x0 : Nat} {x1 : Int32} {x2 : Int32} {x3 : Int32} {x4 : Nat} {r : Int32 × ps_G} (h : fL_text g x0 x1 x2 x3 x4 = some r) (hk : Q (.inl (some (.int r.1))) r.2) : ps_Ok mL_text (d + 9) [.ref x0, .int x1, .int x2, .int x3, .ref x4] g Q := by
  unfold fL_text at h
  replace h := q_be h
  obtain ⟨u, hv, h⟩ := h
  replace hv := q_ob_e hv
  obtain ⟨_, cu⟩ := hv
  refine sL_text_0 ?_
  refine ⟨⟨some _, rfl⟩, ⟨some _, rfl⟩, ?_⟩
  refine ps_invvH (M := mL_text) (M' := mX11_text) (pc := 7) (av := [.int x1, .int x2, .int x3]) (rest := [.int (0 : Int32), .ref x4]) hL_text (by decide +kernel) lX11_text ps_w6_70 ps_w6_71 ps_w6_72 ⟨_, _, rfl⟩ cu rfl (Nat.le_of_ble_eq_true rfl) (Nat.le_of_ble_eq_true rfl) rfl kL_text rfl ?_
  rcases q_wr_e h with ⟨E, k, g1, hv, he, rfl⟩ | ⟨v, g1, hv, h⟩
  · exact rX11_text hv ⟨q_hfx kL_text he, _, he, hk⟩
  refine rX11_text hv ?_
  refine sL_text_10 ?_
  replace h := q_be h
  obtain ⟨g2, hv, h⟩ := h
  replace hv := q_wL_e hv
  obtain ⟨_, _, cg, ig, yg⟩ := hv
  cases h
  refine ⟨_, _, cg, ig, _, yg, ?_⟩
  refine sL_text_23 ?_
  exact ⟨rfl, hk⟩
noncomputable def fL_convert (g : ps_G) (x0 : Nat) (x1 : Int32) (x2 : Int32) (x3 : Int32) : Option (Int32 × ps_G) := Option.bind (q_ob 11 g x0) fun _ => q_wr hL_convert (fX11_convert g x0 x1 x2 x3) (fun v g1 => some ((0 : Int32), g1))
theorem rL_convert {d : Nat} {Q : ps_Rs → ps_G → Prop} {g : ps_G} {x0 : Nat} {x1 : Int32} {x2 : Int32} {x3 : Int32} {r : Int32 × ps_G} (h : fL_convert g x0 x1 x2 x3 = some r) (hk : Q (.inl (some (.int r.1))) r.2) : ps_Ok mL_convert (d + 9) [.ref x0, .int x1, .int x2, .int x3] g Q := by
  unfold fL_convert at h
  replace h := q_be h
  obtain ⟨u, hv, h⟩ := h
  replace hv := q_ob_e hv
  obtain ⟨_, cu⟩ := hv
  refine sL_convert_0 ?_
  refine ⟨⟨some _, rfl⟩, ?_⟩
  refine ps_invvH (M := mL_convert) (M' := mX11_convert) (pc := 4) (av := [.int x1, .int x2, .int x3]) (rest := []) hL_convert (by decide +kernel) lX11_convert ps_w6_81 ps_w6_82 ps_w6_83 ⟨_, _, rfl⟩ cu rfl (Nat.le_of_ble_eq_true rfl) (Nat.le_of_ble_eq_true rfl) rfl kL_convert rfl ?_
  rcases q_wr_e h with ⟨E, k, g1, hv, he, rfl⟩ | ⟨v, g1, hv, h⟩
  · exact rX11_convert hv ⟨q_hfx kL_convert he, _, he, hk⟩
  refine rX11_convert hv ?_
  refine sL_convert_7 ?_
  cases h
  refine sL_convert_22 ?_
  exact ⟨rfl, hk⟩
noncomputable def fL_few (g : ps_G) (x0 : Nat) (x1 : Int32) (x2 : Int32) (x3 : Int32) (x4 : Nat) : Option (Int32 × ps_G) := Option.bind (q_ob 11 g x0) fun _ => q_wr hL_few (fX11_few g x0 x1 x2 x3) (fun v g1 => Option.bind (q_wL g1 x4 (0 : Int32) (Int32.toInt64 v)) fun g2 => some ((0 : Int32), g2))
theorem rL_few {d : Nat} {Q : ps_Rs → ps_G → Prop} {g : ps_G} {x0 : Nat} {x1 : Int32} {x2 : Int32} {x3 : Int32} {x4 : Nat} {r : Int32 × ps_G} (h : fL_few g x0 x1 x2 x3 x4 = some r) (hk : Q (.inl (some (.int r.1))) r.2) : ps_Ok mL_few (d + 9) [.ref x0, .int x1, .int x2, .int x3, .ref x4] g Q := by
  unfold fL_few at h
  replace h := q_be h
  obtain ⟨u, hv, h⟩ := h
  replace hv := q_ob_e hv
  obtain ⟨_, cu⟩ := hv
  refine sL_few_0 ?_
  refine ⟨⟨some _, rfl⟩, ⟨some _, rfl⟩, ?_⟩
  refine ps_invvH (M := mL_few) (M' := mX11_few) (pc := 7) (av := [.int x1, .int x2, .int x3]) (rest := [.int (0 : Int32), .ref x4]) hL_few (by decide +kernel) lX11_few ps_w6_126 ps_w6_127 ps_w6_128 ⟨_, _, rfl⟩ cu rfl (Nat.le_of_ble_eq_true rfl) (Nat.le_of_ble_eq_true rfl) rfl kL_few rfl ?_
  rcases q_wr_e h with ⟨E, k, g1, hv, he, rfl⟩ | ⟨v, g1, hv, h⟩
  · exact rX11_few hv ⟨q_hfx kL_few he, _, he, hk⟩
  refine rX11_few hv ?_
  refine sL_few_10 ?_
  replace h := q_be h
  obtain ⟨g2, hv, h⟩ := h
  replace hv := q_wL_e hv
  obtain ⟨_, _, cg, ig, yg⟩ := hv
  cases h
  refine ⟨_, _, cg, ig, _, yg, ?_⟩
  refine sL_few_23 ?_
  exact ⟨rfl, hk⟩
noncomputable def fL_raw (g : ps_G) (x0 : Nat) (x1 : Nat) : Option (Int32 × ps_G) := Option.bind (q_ob 11 g x0) fun _ => q_wr hL_raw (fX11_raw g x0) (fun v g1 => Option.bind (q_wL g1 x1 (0 : Int32) (Int32.toInt64 v)) fun g2 => some ((0 : Int32), g2))
theorem rL_raw {d : Nat} {Q : ps_Rs → ps_G → Prop} {g : ps_G} {x0 : Nat} {x1 : Nat} {r : Int32 × ps_G} (h : fL_raw g x0 x1 = some r) (hk : Q (.inl (some (.int r.1))) r.2) : ps_Ok mL_raw (d + 8) [.ref x0, .ref x1] g Q := by
  unfold fL_raw at h
  replace h := q_be h
  obtain ⟨u, hv, h⟩ := h
  replace hv := q_ob_e hv
  obtain ⟨_, cu⟩ := hv
  refine sL_raw_0 ?_
  refine ⟨⟨some _, rfl⟩, ⟨some _, rfl⟩, ?_⟩
  refine ps_invvH (M := mL_raw) (M' := mX11_raw) (pc := 3) (av := []) (rest := [.int (0 : Int32), .ref x1]) hL_raw (by decide +kernel) lX11_raw ps_w6_177 ps_w6_178 ps_w6_179 ⟨_, _, rfl⟩ cu rfl (Nat.le_of_ble_eq_true rfl) (Nat.le_of_ble_eq_true rfl) rfl kL_raw rfl ?_
  rcases q_wr_e h with ⟨E, k, g1, hv, he, rfl⟩ | ⟨v, g1, hv, h⟩
  · exact rX11_raw hv ⟨q_hfx kL_raw he, _, he, hk⟩
  refine rX11_raw hv ?_
  refine sL_raw_6 ?_
  replace h := q_be h
  obtain ⟨g2, hv, h⟩ := h
  replace hv := q_wL_e hv
  obtain ⟨_, _, cg, ig, yg⟩ := hv
  cases h
  refine ⟨_, _, cg, ig, _, yg, ?_⟩
  refine sL_raw_17 ?_
  exact ⟨rfl, hk⟩
noncomputable def fL_png (g : ps_G) (x0 : Nat) (x1 : Nat) : Option (Int32 × ps_G) := Option.bind (q_ob 11 g x0) fun _ => q_wr hL_png (fX11_png g x0) (fun v g1 => Option.bind (q_wL g1 x1 (0 : Int32) (Int32.toInt64 v)) fun g2 => some ((0 : Int32), g2))
theorem rL_png {d : Nat} {Q : ps_Rs → ps_G → Prop} {g : ps_G} {x0 : Nat} {x1 : Nat} {r : Int32 × ps_G} (h : fL_png g x0 x1 = some r) (hk : Q (.inl (some (.int r.1))) r.2) : ps_Ok mL_png (d + 8) [.ref x0, .ref x1] g Q := by
  unfold fL_png at h
  replace h := q_be h
  obtain ⟨u, hv, h⟩ := h
  replace hv := q_ob_e hv
  obtain ⟨_, cu⟩ := hv
  refine sL_png_0 ?_
  refine ⟨⟨some _, rfl⟩, ⟨some _, rfl⟩, ?_⟩
  refine ps_invvH (M := mL_png) (M' := mX11_png) (pc := 3) (av := []) (rest := [.int (0 : Int32), .ref x1]) hL_png (by decide +kernel) lX11_png ps_w6_224 ps_w6_225 ps_w6_226 ⟨_, _, rfl⟩ cu rfl (Nat.le_of_ble_eq_true rfl) (Nat.le_of_ble_eq_true rfl) rfl kL_png rfl ?_
  rcases q_wr_e h with ⟨E, k, g1, hv, he, rfl⟩ | ⟨v, g1, hv, h⟩
  · exact rX11_png hv ⟨q_hfx kL_png he, _, he, hk⟩
  refine rX11_png hv ?_
  refine sL_png_6 ?_
  replace h := q_be h
  obtain ⟨g2, hv, h⟩ := h
  replace hv := q_wL_e hv
  obtain ⟨_, _, cg, ig, yg⟩ := hv
  cases h
  refine ⟨_, _, cg, ig, _, yg, ?_⟩
  refine sL_png_17 ?_
  exact ⟨rfl, hk⟩
noncomputable def fL_select (g : ps_G) (x0 : Nat) (x1 : Int32) (x2 : Int32) (x3 : Int32) (x4 : Int32) (x5 : Int32) (x6 : Int32) (x7 : Nat) : Option (Int32 × ps_G) := Option.bind (q_ob 11 g x0) fun _ => q_wr hL_select (fX11_select g x0 x1 x2 x3 x4 x5 x6) (fun v g1 => Option.bind (q_wL g1 x7 (0 : Int32) (Int32.toInt64 v)) fun g2 => some ((0 : Int32), g2))
theorem rL_select {d : Nat} {Q : ps_Rs → ps_G → Prop} {g : ps_G} {x0 : Nat} {x1 : Int32} {x2 : Int32} {x3 : Int32} {x4 : Int32} {x5 : Int32} {x6 : Int32} {x7 : Nat} {r : Int32 × ps_G} (h : fL_select g x0 x1 x2 x3 x4 x5 x6 x7 = some r) (hk : Q (.inl (some (.int r.1))) r.2) : ps_Ok mL_select (d + 101) [.ref x0, .int x1, .int x2, .int x3, .int x4, .int x5, .int x6, .ref x7] g Q := by
  unfold fL_select at h
  replace h := q_be h
  obtain ⟨u, hv, h⟩ := h
  replace hv := q_ob_e hv
  obtain ⟨_, cu⟩ := hv
  refine sL_select_0 ?_
  refine ⟨⟨some _, rfl⟩, ⟨some _, rfl⟩, ?_⟩
  refine ps_invvH (M := mL_select) (M' := mX11_select) (pc := 13) (av := [.int x1, .int x2, .int x3, .int x4, .int x5, .int x6]) (rest := [.int (0 : Int32), .ref x7]) hL_select (by decide +kernel) lX11_select ps_w7_150 ps_w7_151 ps_w7_152 ⟨_, _, rfl⟩ cu rfl (Nat.le_of_ble_eq_true rfl) (Nat.le_of_ble_eq_true rfl) rfl kL_select rfl ?_
  rcases q_wr_e h with ⟨E, k, g1, hv, he, rfl⟩ | ⟨v, g1, hv, h⟩
  · exact rX11_select hv ⟨q_hfx kL_select he, _, he, hk⟩
  refine rX11_select hv ?_
  refine sL_select_16 ?_
  replace h := q_be h
  obtain ⟨g2, hv, h⟩ := h
  replace hv := q_wL_e hv
  obtain ⟨_, _, cg, ig, yg⟩ := hv
  cases h
  refine ⟨_, _, cg, ig, _, yg, ?_⟩
  refine sL_select_29 ?_
  exact ⟨rfl, hk⟩
noncomputable def fL_reselect (g : ps_G) (x0 : Nat) (x1 : Int32) (x2 : Int32) (x3 : Nat) : Option (Int32 × ps_G) := Option.bind (q_ob 11 g x0) fun _ => q_wr hL_reselect (fX11_reselect g x0 x1 x2) (fun v g1 => Option.bind (q_wL g1 x3 (0 : Int32) (Int32.toInt64 v)) fun g2 => some ((0 : Int32), g2))
theorem rL_reselect {d : Nat} {Q : ps_Rs → ps_G → Prop} {g : ps_G} {x0 : Nat} {x1 : Int32} {x2 : Int32} {x3 : Nat} {r : Int32 × ps_G} (h : fL_reselect g x0 x1 x2 x3 = some r) (hk : Q (.inl (some (.int r.1))) r.2) : ps_Ok mL_reselect (d + 8) [.ref x0, .int x1, .int x2, .ref x3] g Q := by
  unfold fL_reselect at h
  replace h := q_be h
  obtain ⟨u, hv, h⟩ := h
  replace hv := q_ob_e hv
  obtain ⟨_, cu⟩ := hv
  refine sL_reselect_0 ?_
  refine ⟨⟨some _, rfl⟩, ⟨some _, rfl⟩, ?_⟩
  refine ps_invvH (M := mL_reselect) (M' := mX11_reselect) (pc := 5) (av := [.int x1, .int x2]) (rest := [.int (0 : Int32), .ref x3]) hL_reselect (by decide +kernel) lX11_reselect ps_w7_206 ps_w7_207 ps_w7_208 ⟨_, _, rfl⟩ cu rfl (Nat.le_of_ble_eq_true rfl) (Nat.le_of_ble_eq_true rfl) rfl kL_reselect rfl ?_
  rcases q_wr_e h with ⟨E, k, g1, hv, he, rfl⟩ | ⟨v, g1, hv, h⟩
  · exact rX11_reselect hv ⟨q_hfx kL_reselect he, _, he, hk⟩
  refine rX11_reselect hv ?_
  refine sL_reselect_8 ?_
  replace h := q_be h
  obtain ⟨g2, hv, h⟩ := h
  replace hv := q_wL_e hv
  obtain ⟨_, _, cg, ig, yg⟩ := hv
  cases h
  refine ⟨_, _, cg, ig, _, yg, ?_⟩
  refine sL_reselect_17 ?_
  exact ⟨rfl, hk⟩
noncomputable def fL_selected (g : ps_G) (x0 : Nat) (x1 : Int32) (x2 : Int32) (x3 : Nat) : Option (Int32 × ps_G) := Option.bind (q_ob 11 g x0) fun _ => q_wr hL_selected (fX11_selected g x0 x1 x2) (fun v g1 => Option.bind (q_wL g1 x3 (0 : Int32) (Int32.toInt64 v)) fun g2 => some ((0 : Int32), g2))
theorem rL_selected {d : Nat} {Q : ps_Rs → ps_G → Prop} {g : ps_G} {x0 : Nat} {x1 : Int32} {x2 : Int32} {x3 : Nat} {r : Int32 × ps_G} (h : fL_selected g x0 x1 x2 x3 = some r) (hk : Q (.inl (some (.int r.1))) r.2) : ps_Ok mL_selected (d + 8) [.ref x0, .int x1, .int x2, .ref x3] g Q := by
  unfold fL_selected at h
  replace h := q_be h
  obtain ⟨u, hv, h⟩ := h
  replace hv := q_ob_e hv
  obtain ⟨_, cu⟩ := hv
  refine sL_selected_0 ?_
  refine ⟨⟨some _, rfl⟩, ⟨some _, rfl⟩, ?_⟩
  refine ps_invvH (M := mL_selected) (M' := mX11_selected) (pc := 5) (av := [.int x1, .int x2]) (rest := [.int (0 : Int32), .ref x3]) hL_selected (by decide +kernel) lX11_selected ps_w7_226 ps_w7_227 ps_w7_228 ⟨_, _, rfl⟩ cu rfl (Nat.le_of_ble_eq_true rfl) (Nat.le_of_ble_eq_true rfl) rfl kL_selected rfl ?_
  rcases q_wr_e h with ⟨E, k, g1, hv, he, rfl⟩ | ⟨v, g1, hv, h⟩
  · exact rX11_selected hv ⟨q_hfx kL_selected he, _, he, hk⟩
  refine rX11_selected hv ?_
  refine sL_selected_8 ?_
  replace h := q_be h
  obtain ⟨g2, hv, h⟩ := h
  replace hv := q_wL_e hv
  obtain ⟨_, _, cg, ig, yg⟩ := hv
  cases h
  refine ⟨_, _, cg, ig, _, yg, ?_⟩
  refine sL_selected_17 ?_
  exact ⟨rfl, hk⟩
noncomputable def fL_brush (g : ps_G) (x0 : Nat) (x1 : Int32) (x2 : Int32) (x3 : Int32) (x4 : Int32) (x5 : Int32) : Option (Int32 × ps_G) := Option.bind (q_ob 11 g x0) fun _ => q_wr hL_brush (fX11_brush g x0 x1 x2 x3 x4 x5) (fun v g1 => some ((0 : Int32), g1))
theorem rL_brush {d : Nat} {Q : ps_Rs → ps_G → Prop} {g : ps_G} {x0 : Nat} {x1 : Int32} {x2 : Int32} {x3 : Int32} {x4 : Int32} {x5 : Int32} {r : Int32 × ps_G} (h : fL_brush g x0 x1 x2 x3 x4 x5 = some r) (hk : Q (.inl (some (.int r.1))) r.2) : ps_Ok mL_brush (d + 8) [.ref x0, .int x1, .int x2, .int x3, .int x4, .int x5] g Q := by
  unfold fL_brush at h
  replace h := q_be h
  obtain ⟨u, hv, h⟩ := h
  replace hv := q_ob_e hv
  obtain ⟨_, cu⟩ := hv
  refine sL_brush_0 ?_
  refine ⟨⟨some _, rfl⟩, ?_⟩
  refine ps_invvH (M := mL_brush) (M' := mX11_brush) (pc := 8) (av := [.int x1, .int x2, .int x3, .int x4, .int x5]) (rest := []) hL_brush (by decide +kernel) lX11_brush ps_w7_238 ps_w7_239 ps_w8_0 ⟨_, _, rfl⟩ cu rfl (Nat.le_of_ble_eq_true rfl) (Nat.le_of_ble_eq_true rfl) rfl kL_brush rfl ?_
  rcases q_wr_e h with ⟨E, k, g1, hv, he, rfl⟩ | ⟨v, g1, hv, h⟩
  · exact rX11_brush hv ⟨q_hfx kL_brush he, _, he, hk⟩
  refine rX11_brush hv ?_
  refine sL_brush_11 ?_
  cases h
  refine sL_brush_18 ?_
  exact ⟨rfl, hk⟩
noncomputable def fL_source (g : ps_G) (x0 : Nat) (x1 : Int32) (x2 : Int32) : Option (Int32 × ps_G) := Option.bind (q_ob 11 g x0) fun _ => q_wr hL_source (fX11_source g x0 x1 x2) (fun v g1 => some ((0 : Int32), g1))
theorem rL_source {d : Nat} {Q : ps_Rs → ps_G → Prop} {g : ps_G} {x0 : Nat} {x1 : Int32} {x2 : Int32} {r : Int32 × ps_G} (h : fL_source g x0 x1 x2 = some r) (hk : Q (.inl (some (.int r.1))) r.2) : ps_Ok mL_source (d + 8) [.ref x0, .int x1, .int x2] g Q := by
  unfold fL_source at h
  replace h := q_be h
  obtain ⟨u, hv, h⟩ := h
  replace hv := q_ob_e hv
  obtain ⟨_, cu⟩ := hv
  refine sL_source_0 ?_
  refine ⟨⟨some _, rfl⟩, ?_⟩
  refine ps_invvH (M := mL_source) (M' := mX11_source) (pc := 3) (av := [.int x1, .int x2]) (rest := []) hL_source (by decide +kernel) lX11_source ps_w8_5 ps_w8_6 ps_w8_7 ⟨_, _, rfl⟩ cu rfl (Nat.le_of_ble_eq_true rfl) (Nat.le_of_ble_eq_true rfl) rfl kL_source rfl ?_
  rcases q_wr_e h with ⟨E, k, g1, hv, he, rfl⟩ | ⟨v, g1, hv, h⟩
  · exact rX11_source hv ⟨q_hfx kL_source he, _, he, hk⟩
  refine rX11_source hv ?_
  refine sL_source_6 ?_
  cases h
  refine sL_source_12 ?_
  exact ⟨rfl, hk⟩
noncomputable def fL_point (g : ps_G) (x0 : Nat) (x1 : Int32) (x2 : Int32) (x3 : Int32) (x4 : Nat) : Option (Int32 × ps_G) := Option.bind (q_ob 11 g x0) fun _ => q_wr hL_point (fX11_point g x0 x1 x2 x3) (fun v g1 => Option.bind (q_wL g1 x4 (0 : Int32) (Int32.toInt64 v)) fun g2 => some ((0 : Int32), g2))
theorem rL_point {d : Nat} {Q : ps_Rs → ps_G → Prop} {g : ps_G} {x0 : Nat} {x1 : Int32} {x2 : Int32} {x3 : Int32} {x4 : Nat} {r : Int32 × ps_G} (h : fL_point g x0 x1 x2 x3 x4 = some r) (hk : Q (.inl (some (.int r.1))) r.2) : ps_Ok mL_point (d + 8) [.ref x0, .int x1, .int x2, .int x3, .ref x4] g Q := by
  unfold fL_point at h
  replace h := q_be h
  obtain ⟨u, hv, h⟩ := h
  replace hv := q_ob_e hv
  obtain ⟨_, cu⟩ := hv
  refine sL_point_0 ?_
  refine ⟨⟨some _, rfl⟩, ⟨some _, rfl⟩, ?_⟩
  refine ps_invvH (M := mL_point) (M' := mX11_point) (pc := 7) (av := [.int x1, .int x2, .int x3]) (rest := [.int (0 : Int32), .ref x4]) hL_point (by decide +kernel) lX11_point ps_w8_12 ps_w8_13 ps_w8_14 ⟨_, _, rfl⟩ cu rfl (Nat.le_of_ble_eq_true rfl) (Nat.le_of_ble_eq_true rfl) rfl kL_point rfl ?_
  rcases q_wr_e h with ⟨E, k, g1, hv, he, rfl⟩ | ⟨v, g1, hv, h⟩
  · exact rX11_point hv ⟨q_hfx kL_point he, _, he, hk⟩
  refine rX11_point hv ?_
  refine sL_point_10 ?_
  replace h := q_be h
  obtain ⟨g2, hv, h⟩ := h
  replace hv := q_wL_e hv
  obtain ⟨_, _, cg, ig, yg⟩ := hv
  cases h
  refine ⟨_, _, cg, ig, _, yg, ?_⟩
  refine sL_point_23 ?_
  exact ⟨rfl, hk⟩
noncomputable def fL_curve (g : ps_G) (x0 : Nat) (x1 : Int32) (x2 : Int32) (x3 : Int32) (x4 : Int32) (x5 : Nat) : Option (Int32 × ps_G) := Option.bind (q_ob 11 g x0) fun _ => q_wr hL_curve (fX11_curve g x0 x1 x2 x3 x4) (fun v g1 => Option.bind (q_wL g1 x5 (0 : Int32) (Int32.toInt64 v)) fun g2 => some ((0 : Int32), g2))
theorem rL_curve {d : Nat} {Q : ps_Rs → ps_G → Prop} {g : ps_G} {x0 : Nat} {x1 : Int32} {x2 : Int32} {x3 : Int32} {x4 : Int32} {x5 : Nat} {r : Int32 × ps_G} (h : fL_curve g x0 x1 x2 x3 x4 x5 = some r) (hk : Q (.inl (some (.int r.1))) r.2) : ps_Ok mL_curve (d + 8) [.ref x0, .int x1, .int x2, .int x3, .int x4, .ref x5] g Q := by
  unfold fL_curve at h
  replace h := q_be h
  obtain ⟨u, hv, h⟩ := h
  replace hv := q_ob_e hv
  obtain ⟨_, cu⟩ := hv
  refine sL_curve_0 ?_
  refine ⟨⟨some _, rfl⟩, ⟨some _, rfl⟩, ?_⟩
  refine ps_invvH (M := mL_curve) (M' := mX11_curve) (pc := 9) (av := [.int x1, .int x2, .int x3, .int x4]) (rest := [.int (0 : Int32), .ref x5]) hL_curve (by decide +kernel) lX11_curve ps_w8_24 ps_w8_25 ps_w8_26 ⟨_, _, rfl⟩ cu rfl (Nat.le_of_ble_eq_true rfl) (Nat.le_of_ble_eq_true rfl) rfl kL_curve rfl ?_
  rcases q_wr_e h with ⟨E, k, g1, hv, he, rfl⟩ | ⟨v, g1, hv, h⟩
  · exact rX11_curve hv ⟨q_hfx kL_curve he, _, he, hk⟩
  refine rX11_curve hv ?_
  refine sL_curve_12 ?_
  replace h := q_be h
  obtain ⟨g2, hv, h⟩ := h
  replace hv := q_wL_e hv
  obtain ⟨_, _, cg, ig, yg⟩ := hv
  cases h
  refine ⟨_, _, cg, ig, _, yg, ?_⟩
  refine sL_curve_25 ?_
  exact ⟨rfl, hk⟩
noncomputable def fL_kernel (g : ps_G) (x0 : Nat) (x1 : Int32) (x2 : Int32) : Option (Int32 × ps_G) := Option.bind (q_ob 11 g x0) fun _ => q_wr hL_kernel (fX11_kernel g x0 x1 x2) (fun v g1 => some ((0 : Int32), g1))
theorem rL_kernel {d : Nat} {Q : ps_Rs → ps_G → Prop} {g : ps_G} {x0 : Nat} {x1 : Int32} {x2 : Int32} {r : Int32 × ps_G} (h : fL_kernel g x0 x1 x2 = some r) (hk : Q (.inl (some (.int r.1))) r.2) : ps_Ok mL_kernel (d + 8) [.ref x0, .int x1, .int x2] g Q := by
  unfold fL_kernel at h
  replace h := q_be h
  obtain ⟨u, hv, h⟩ := h
  replace hv := q_ob_e hv
  obtain ⟨_, cu⟩ := hv
  refine sL_kernel_0 ?_
  refine ⟨⟨some _, rfl⟩, ?_⟩
  refine ps_invvH (M := mL_kernel) (M' := mX11_kernel) (pc := 3) (av := [.int x1, .int x2]) (rest := []) hL_kernel (by decide +kernel) lX11_kernel ps_w8_40 ps_w8_41 ps_w8_42 ⟨_, _, rfl⟩ cu rfl (Nat.le_of_ble_eq_true rfl) (Nat.le_of_ble_eq_true rfl) rfl kL_kernel rfl ?_
  rcases q_wr_e h with ⟨E, k, g1, hv, he, rfl⟩ | ⟨v, g1, hv, h⟩
  · exact rX11_kernel hv ⟨q_hfx kL_kernel he, _, he, hk⟩
  refine rX11_kernel hv ?_
  refine sL_kernel_6 ?_
  cases h
  refine sL_kernel_12 ?_
  exact ⟨rfl, hk⟩
noncomputable def fL_profile (g : ps_G) (x0 : Nat) (x1 : Int32) (x2 : Int32) (x3 : Int32) : Option (Int32 × ps_G) := Option.bind (q_ob 11 g x0) fun _ => q_wr hL_profile (fX11_profile g x0 x1 x2 x3) (fun v g1 => some ((0 : Int32), g1))
theorem rL_profile {d : Nat} {Q : ps_Rs → ps_G → Prop} {g : ps_G} {x0 : Nat} {x1 : Int32} {x2 : Int32} {x3 : Int32} {r : Int32 × ps_G} (h : fL_profile g x0 x1 x2 x3 = some r) (hk : Q (.inl (some (.int r.1))) r.2) : ps_Ok mL_profile (d + 8) [.ref x0, .int x1, .int x2, .int x3] g Q := by
  unfold fL_profile at h
  replace h := q_be h
  obtain ⟨u, hv, h⟩ := h
  replace hv := q_ob_e hv
  obtain ⟨_, cu⟩ := hv
  refine sL_profile_0 ?_
  refine ⟨⟨some _, rfl⟩, ?_⟩
  refine ps_invvH (M := mL_profile) (M' := mX11_profile) (pc := 4) (av := [.int x1, .int x2, .int x3]) (rest := []) hL_profile (by decide +kernel) lX11_profile ps_w8_47 ps_w8_48 ps_w8_49 ⟨_, _, rfl⟩ cu rfl (Nat.le_of_ble_eq_true rfl) (Nat.le_of_ble_eq_true rfl) rfl kL_profile rfl ?_
  rcases q_wr_e h with ⟨E, k, g1, hv, he, rfl⟩ | ⟨v, g1, hv, h⟩
  · exact rX11_profile hv ⟨q_hfx kL_profile he, _, he, hk⟩
  refine rX11_profile hv ?_
  refine sL_profile_7 ?_
  cases h
  refine sL_profile_14 ?_
  exact ⟨rfl, hk⟩
noncomputable def fL_develop (g : ps_G) (x0 : Nat) (x1 : Int32) (x2 : Int32) : Option (Int32 × ps_G) := Option.bind (q_ob 11 g x0) fun _ => q_wr hL_develop (fX11_develop g x0 x1 x2) (fun v g1 => some ((0 : Int32), g1))
theorem rL_develop {d : Nat} {Q : ps_Rs → ps_G → Prop} {g : ps_G} {x0 : Nat} {x1 : Int32} {x2 : Int32} {r : Int32 × ps_G} (h : fL_develop g x0 x1 x2 = some r) (hk : Q (.inl (some (.int r.1))) r.2) : ps_Ok mL_develop (d + 8) [.ref x0, .int x1, .int x2] g Q := by
  unfold fL_develop at h
  replace h := q_be h
  obtain ⟨u, hv, h⟩ := h
  replace hv := q_ob_e hv
  obtain ⟨_, cu⟩ := hv
  refine sL_develop_0 ?_
  refine ⟨⟨some _, rfl⟩, ?_⟩
  refine ps_invvH (M := mL_develop) (M' := mX11_develop) (pc := 3) (av := [.int x1, .int x2]) (rest := []) hL_develop (by decide +kernel) lX11_develop ps_w8_54 ps_w8_55 ps_w8_56 ⟨_, _, rfl⟩ cu rfl (Nat.le_of_ble_eq_true rfl) (Nat.le_of_ble_eq_true rfl) rfl kL_develop rfl ?_
  rcases q_wr_e h with ⟨E, k, g1, hv, he, rfl⟩ | ⟨v, g1, hv, h⟩
  · exact rX11_develop hv ⟨q_hfx kL_develop he, _, he, hk⟩
  refine rX11_develop hv ?_
  refine sL_develop_6 ?_
  cases h
  refine sL_develop_12 ?_
  exact ⟨rfl, hk⟩
noncomputable def fL_step (g : ps_G) (x0 : Nat) (x1 : Int32) (x2 : Int32) (x3 : Int32) (x4 : Int32) (x5 : Nat) : Option (Int32 × ps_G) := Option.bind (q_ob 11 g x0) fun _ => q_wr hL_step (fX11_step g x0 x1 x2 x3 x4) (fun v g1 => Option.bind (q_wL g1 x5 (0 : Int32) (Int32.toInt64 v)) fun g2 => some ((0 : Int32), g2))
theorem rL_step {d : Nat} {Q : ps_Rs → ps_G → Prop} {g : ps_G} {x0 : Nat} {x1 : Int32} {x2 : Int32} {x3 : Int32} {x4 : Int32} {x5 : Nat} {r : Int32 × ps_G} (h : fL_step g x0 x1 x2 x3 x4 x5 = some r) (hk : Q (.inl (some (.int r.1))) r.2) : ps_Ok mL_step (d + 8) [.ref x0, .int x1, .int x2, .int x3, .int x4, .ref x5] g Q := by
  unfold fL_step at h
  replace h := q_be h
  obtain ⟨u, hv, h⟩ := h
  replace hv := q_ob_e hv
  obtain ⟨_, cu⟩ := hv
  refine sL_step_0 ?_
  refine ⟨⟨some _, rfl⟩, ⟨some _, rfl⟩, ?_⟩
  refine ps_invvH (M := mL_step) (M' := mX11_step) (pc := 9) (av := [.int x1, .int x2, .int x3, .int x4]) (rest := [.int (0 : Int32), .ref x5]) hL_step (by decide +kernel) lX11_step ps_w8_61 ps_w8_62 ps_w8_63 ⟨_, _, rfl⟩ cu rfl (Nat.le_of_ble_eq_true rfl) (Nat.le_of_ble_eq_true rfl) rfl kL_step rfl ?_
  rcases q_wr_e h with ⟨E, k, g1, hv, he, rfl⟩ | ⟨v, g1, hv, h⟩
  · exact rX11_step hv ⟨q_hfx kL_step he, _, he, hk⟩
  refine rX11_step hv ?_
  refine sL_step_12 ?_
  replace h := q_be h
  obtain ⟨g2, hv, h⟩ := h
  replace hv := q_wL_e hv
  obtain ⟨_, _, cg, ig, yg⟩ := hv
  cases h
  refine ⟨_, _, cg, ig, _, yg, ?_⟩
  refine sL_step_29 ?_
  exact ⟨rfl, hk⟩
noncomputable def fL_glyph (g : ps_G) (x0 : Nat) (x1 : Int32) (x2 : Int32) (x3 : Int32) : Option (Int32 × ps_G) := Option.bind (q_ob 11 g x0) fun _ => q_wr hL_glyph (fX11_glyph g x0 x1 x2 x3) (fun v g1 => some ((0 : Int32), g1))
theorem rL_glyph {d : Nat} {Q : ps_Rs → ps_G → Prop} {g : ps_G} {x0 : Nat} {x1 : Int32} {x2 : Int32} {x3 : Int32} {r : Int32 × ps_G} (h : fL_glyph g x0 x1 x2 x3 = some r) (hk : Q (.inl (some (.int r.1))) r.2) : ps_Ok mL_glyph (d + 8) [.ref x0, .int x1, .int x2, .int x3] g Q := by
  unfold fL_glyph at h
  replace h := q_be h
  obtain ⟨u, hv, h⟩ := h
  replace hv := q_ob_e hv
  obtain ⟨_, cu⟩ := hv
  refine sL_glyph_0 ?_
  refine ⟨⟨some _, rfl⟩, ?_⟩
  refine ps_invvH (M := mL_glyph) (M' := mX11_glyph) (pc := 4) (av := [.int x1, .int x2, .int x3]) (rest := []) hL_glyph (by decide +kernel) lX11_glyph ps_w8_77 ps_w8_78 ps_w8_79 ⟨_, _, rfl⟩ cu rfl (Nat.le_of_ble_eq_true rfl) (Nat.le_of_ble_eq_true rfl) rfl kL_glyph rfl ?_
  rcases q_wr_e h with ⟨E, k, g1, hv, he, rfl⟩ | ⟨v, g1, hv, h⟩
  · exact rX11_glyph hv ⟨q_hfx kL_glyph he, _, he, hk⟩
  refine rX11_glyph hv ?_
  refine sL_glyph_7 ?_
  cases h
  refine sL_glyph_14 ?_
  exact ⟨rfl, hk⟩
noncomputable def fL_see (g : ps_G) (x0 : Nat) (x1 : Int32) (x2 : Int32) (x3 : Nat) : Option (Int32 × ps_G) := Option.bind (q_ob 11 g x0) fun _ => q_wr hL_see (fX11_see g x0 x1 x2) (fun v g1 => Option.bind (q_wL g1 x3 (0 : Int32) (Int32.toInt64 v)) fun g2 => some ((0 : Int32), g2))
theorem rL_see {d : Nat} {Q : ps_Rs → ps_G → Prop} {g : ps_G} {x0 : Nat} {x1 : Int32} {x2 : Int32} {x3 : Nat} {r : Int32 × ps_G} (h : fL_see g x0 x1 x2 x3 = some r) (hk : Q (.inl (some (.int r.1))) r.2) : ps_Ok mL_see (d + 101) [.ref x0, .int x1, .int x2, .ref x3] g Q := by
  unfold fL_see at h
  replace h := q_be h
  obtain ⟨u, hv, h⟩ := h
  replace hv := q_ob_e hv
  obtain ⟨_, cu⟩ := hv
  refine sL_see_0 ?_
  refine ⟨⟨some _, rfl⟩, ⟨some _, rfl⟩, ?_⟩
  refine ps_invvH (M := mL_see) (M' := mX11_see) (pc := 5) (av := [.int x1, .int x2]) (rest := [.int (0 : Int32), .ref x3]) hL_see (by decide +kernel) lX11_see ps_w8_84 ps_w8_85 ps_w8_86 ⟨_, _, rfl⟩ cu rfl (Nat.le_of_ble_eq_true rfl) (Nat.le_of_ble_eq_true rfl) rfl kL_see rfl ?_
  rcases q_wr_e h with ⟨E, k, g1, hv, he, rfl⟩ | ⟨v, g1, hv, h⟩
  · exact rX11_see hv ⟨q_hfx kL_see he, _, he, hk⟩
  refine rX11_see hv ?_
  refine sL_see_8 ?_
  replace h := q_be h
  obtain ⟨g2, hv, h⟩ := h
  replace hv := q_wL_e hv
  obtain ⟨_, _, cg, ig, yg⟩ := hv
  cases h
  refine ⟨_, _, cg, ig, _, yg, ?_⟩
  refine sL_see_17 ?_
  exact ⟨rfl, hk⟩
noncomputable def fL_zoomed (g : ps_G) (x0 : Nat) (x1 : Int32) (x2 : Int32) (x3 : Int32) (x4 : Nat) : Option (Int32 × ps_G) := Option.bind (q_ob 11 g x0) fun _ => q_wr hL_zoomed (fX11_zoomed g x0 x1 x2 x3) (fun v g1 => Option.bind (q_wL g1 x4 (0 : Int32) (Int32.toInt64 v)) fun g2 => some ((0 : Int32), g2))
theorem rL_zoomed {d : Nat} {Q : ps_Rs → ps_G → Prop} {g : ps_G} {x0 : Nat} {x1 : Int32} {x2 : Int32} {x3 : Int32} {x4 : Nat} {r : Int32 × ps_G} (h : fL_zoomed g x0 x1 x2 x3 x4 = some r) (hk : Q (.inl (some (.int r.1))) r.2) : ps_Ok mL_zoomed (d + 101) [.ref x0, .int x1, .int x2, .int x3, .ref x4] g Q := by
  unfold fL_zoomed at h
  replace h := q_be h
  obtain ⟨u, hv, h⟩ := h
  replace hv := q_ob_e hv
  obtain ⟨_, cu⟩ := hv
  refine sL_zoomed_0 ?_
  refine ⟨⟨some _, rfl⟩, ⟨some _, rfl⟩, ?_⟩
  refine ps_invvH (M := mL_zoomed) (M' := mX11_zoomed) (pc := 7) (av := [.int x1, .int x2, .int x3]) (rest := [.int (0 : Int32), .ref x4]) hL_zoomed (by decide +kernel) lX11_zoomed ps_w8_108 ps_w8_109 ps_w8_110 ⟨_, _, rfl⟩ cu rfl (Nat.le_of_ble_eq_true rfl) (Nat.le_of_ble_eq_true rfl) rfl kL_zoomed rfl ?_
  rcases q_wr_e h with ⟨E, k, g1, hv, he, rfl⟩ | ⟨v, g1, hv, h⟩
  · exact rX11_zoomed hv ⟨q_hfx kL_zoomed he, _, he, hk⟩
  refine rX11_zoomed hv ?_
  refine sL_zoomed_10 ?_
  replace h := q_be h
  obtain ⟨g2, hv, h⟩ := h
  replace hv := q_wL_e hv
  obtain ⟨_, _, cg, ig, yg⟩ := hv
  cases h
  refine ⟨_, _, cg, ig, _, yg, ?_⟩
  refine sL_zoomed_23 ?_
  exact ⟨rfl, hk⟩
noncomputable def fL_pixel (g : ps_G) (x0 : Nat) (x1 : Int32) (x2 : Int32) (x3 : Int32) (x4 : Nat) : Option (Int32 × ps_G) := Option.bind (q_ob 11 g x0) fun _ => q_wr hL_pixel (fX11_pixel g x0 x1 x2 x3) (fun v g1 => Option.bind (q_wL g1 x4 (0 : Int32) (Int32.toInt64 v)) fun g2 => some ((0 : Int32), g2))
theorem rL_pixel {d : Nat} {Q : ps_Rs → ps_G → Prop} {g : ps_G} {x0 : Nat} {x1 : Int32} {x2 : Int32} {x3 : Int32} {x4 : Nat} {r : Int32 × ps_G} (h : fL_pixel g x0 x1 x2 x3 x4 = some r) (hk : Q (.inl (some (.int r.1))) r.2) : ps_Ok mL_pixel (d + 9) [.ref x0, .int x1, .int x2, .int x3, .ref x4] g Q := by
  unfold fL_pixel at h
  replace h := q_be h
  obtain ⟨u, hv, h⟩ := h
  replace hv := q_ob_e hv
  obtain ⟨_, cu⟩ := hv
  refine sL_pixel_0 ?_
  refine ⟨⟨some _, rfl⟩, ⟨some _, rfl⟩, ?_⟩
  refine ps_invvH (M := mL_pixel) (M' := mX11_pixel) (pc := 7) (av := [.int x1, .int x2, .int x3]) (rest := [.int (0 : Int32), .ref x4]) hL_pixel (by decide +kernel) lX11_pixel ps_w8_124 ps_w8_125 ps_w8_126 ⟨_, _, rfl⟩ cu rfl (Nat.le_of_ble_eq_true rfl) (Nat.le_of_ble_eq_true rfl) rfl kL_pixel rfl ?_
  rcases q_wr_e h with ⟨E, k, g1, hv, he, rfl⟩ | ⟨v, g1, hv, h⟩
  · exact rX11_pixel hv ⟨q_hfx kL_pixel he, _, he, hk⟩
  refine rX11_pixel hv ?_
  refine sL_pixel_10 ?_
  replace h := q_be h
  obtain ⟨g2, hv, h⟩ := h
  replace hv := q_wL_e hv
  obtain ⟨_, _, cg, ig, yg⟩ := hv
  cases h
  refine ⟨_, _, cg, ig, _, yg, ?_⟩
  refine sL_pixel_19 ?_
  exact ⟨rfl, hk⟩
noncomputable def fL_masked (g : ps_G) (x0 : Nat) (x1 : Int32) (x2 : Int32) (x3 : Int32) (x4 : Nat) : Option (Int32 × ps_G) := Option.bind (q_ob 11 g x0) fun _ => q_wr hL_masked (fX11_masked g x0 x1 x2 x3) (fun v g1 => Option.bind (q_wL g1 x4 (0 : Int32) (Int32.toInt64 v)) fun g2 => some ((0 : Int32), g2))
theorem rL_masked {d : Nat} {Q : ps_Rs → ps_G → Prop} {g : ps_G} {x0 : Nat} {x1 : Int32} {x2 : Int32} {x3 : Int32} {x4 : Nat} {r : Int32 × ps_G} (h : fL_masked g x0 x1 x2 x3 x4 = some r) (hk : Q (.inl (some (.int r.1))) r.2) : ps_Ok mL_masked (d + 8) [.ref x0, .int x1, .int x2, .int x3, .ref x4] g Q := by
  unfold fL_masked at h
  replace h := q_be h
  obtain ⟨u, hv, h⟩ := h
  replace hv := q_ob_e hv
  obtain ⟨_, cu⟩ := hv
  refine sL_masked_0 ?_
  refine ⟨⟨some _, rfl⟩, ⟨some _, rfl⟩, ?_⟩
  refine ps_invvH (M := mL_masked) (M' := mX11_masked) (pc := 7) (av := [.int x1, .int x2, .int x3]) (rest := [.int (0 : Int32), .ref x4]) hL_masked (by decide +kernel) lX11_masked ps_w8_131 ps_w8_132 ps_w8_133 ⟨_, _, rfl⟩ cu rfl (Nat.le_of_ble_eq_true rfl) (Nat.le_of_ble_eq_true rfl) rfl kL_masked rfl ?_
  rcases q_wr_e h with ⟨E, k, g1, hv, he, rfl⟩ | ⟨v, g1, hv, h⟩
  · exact rX11_masked hv ⟨q_hfx kL_masked he, _, he, hk⟩
  refine rX11_masked hv ?_
  refine sL_masked_10 ?_
  replace h := q_be h
  obtain ⟨g2, hv, h⟩ := h
  replace hv := q_wL_e hv
  obtain ⟨_, _, cg, ig, yg⟩ := hv
  cases h
  refine ⟨_, _, cg, ig, _, yg, ?_⟩
  refine sL_masked_19 ?_
  exact ⟨rfl, hk⟩
noncomputable def fL_about (g : ps_G) (x0 : Nat) (x1 : Int32) (x2 : Int32) (x3 : Nat) : Option (Int32 × ps_G) := Option.bind (q_ob 11 g x0) fun _ => q_wr hL_about (fX11_about g x0 x1 x2) (fun v g1 => Option.bind (q_wL g1 x3 (0 : Int32) (Int32.toInt64 v)) fun g2 => some ((0 : Int32), g2))
theorem rL_about {d : Nat} {Q : ps_Rs → ps_G → Prop} {g : ps_G} {x0 : Nat} {x1 : Int32} {x2 : Int32} {x3 : Nat} {r : Int32 × ps_G} (h : fL_about g x0 x1 x2 x3 = some r) (hk : Q (.inl (some (.int r.1))) r.2) : ps_Ok mL_about (d + 8) [.ref x0, .int x1, .int x2, .ref x3] g Q := by
  unfold fL_about at h
  replace h := q_be h
  obtain ⟨u, hv, h⟩ := h
  replace hv := q_ob_e hv
  obtain ⟨_, cu⟩ := hv
  refine sL_about_0 ?_
  refine ⟨⟨some _, rfl⟩, ⟨some _, rfl⟩, ?_⟩
  refine ps_invvH (M := mL_about) (M' := mX11_about) (pc := 5) (av := [.int x1, .int x2]) (rest := [.int (0 : Int32), .ref x3]) hL_about (by decide +kernel) lX11_about ps_w8_138 ps_w8_139 ps_w8_140 ⟨_, _, rfl⟩ cu rfl (Nat.le_of_ble_eq_true rfl) (Nat.le_of_ble_eq_true rfl) rfl kL_about rfl ?_
  rcases q_wr_e h with ⟨E, k, g1, hv, he, rfl⟩ | ⟨v, g1, hv, h⟩
  · exact rX11_about hv ⟨q_hfx kL_about he, _, he, hk⟩
  refine rX11_about hv ?_
  refine sL_about_8 ?_
  replace h := q_be h
  obtain ⟨g2, hv, h⟩ := h
  replace hv := q_wL_e hv
  obtain ⟨_, _, cg, ig, yg⟩ := hv
  cases h
  refine ⟨_, _, cg, ig, _, yg, ?_⟩
  refine sL_about_21 ?_
  exact ⟨rfl, hk⟩
noncomputable def fL_made (g : ps_G) (x0 : Nat) (x1 : Int32) (x2 : Nat) : Option (Int32 × ps_G) := Option.bind (q_ob 11 g x0) fun _ => q_wr hL_made (fX11_made g x0 x1) (fun v g1 => Option.bind (q_wL g1 x2 (0 : Int32) (Int32.toInt64 v)) fun g2 => some ((0 : Int32), g2))
theorem rL_made {d : Nat} {Q : ps_Rs → ps_G → Prop} {g : ps_G} {x0 : Nat} {x1 : Int32} {x2 : Nat} {r : Int32 × ps_G} (h : fL_made g x0 x1 x2 = some r) (hk : Q (.inl (some (.int r.1))) r.2) : ps_Ok mL_made (d + 101) [.ref x0, .int x1, .ref x2] g Q := by
  unfold fL_made at h
  replace h := q_be h
  obtain ⟨u, hv, h⟩ := h
  replace hv := q_ob_e hv
  obtain ⟨_, cu⟩ := hv
  refine sL_made_0 ?_
  refine ⟨⟨some _, rfl⟩, ⟨some _, rfl⟩, ?_⟩
  refine ps_invvH (M := mL_made) (M' := mX11_made) (pc := 4) (av := [.int x1]) (rest := [.int (0 : Int32), .ref x2]) hL_made (by decide +kernel) lX11_made ps_w8_153 ps_w8_154 ps_w8_155 ⟨_, _, rfl⟩ cu rfl (Nat.le_of_ble_eq_true rfl) (Nat.le_of_ble_eq_true rfl) rfl kL_made rfl ?_
  rcases q_wr_e h with ⟨E, k, g1, hv, he, rfl⟩ | ⟨v, g1, hv, h⟩
  · exact rX11_made hv ⟨q_hfx kL_made he, _, he, hk⟩
  refine rX11_made hv ?_
  refine sL_made_7 ?_
  replace h := q_be h
  obtain ⟨g2, hv, h⟩ := h
  replace hv := q_wL_e hv
  obtain ⟨_, _, cg, ig, yg⟩ := hv
  cases h
  refine ⟨_, _, cg, ig, _, yg, ?_⟩
  refine sL_made_15 ?_
  exact ⟨rfl, hk⟩
noncomputable def fL_octets (g : ps_G) (x0 : Nat) (x1 : Int32) (x2 : Nat) : Option (Int32 × ps_G) := Option.bind (q_ob 11 g x0) fun _ => q_wr hL_octets (fX11_octets g x0 x1) (fun v g1 => Option.bind (q_wL g1 x2 (0 : Int32) v) fun g2 => some ((0 : Int32), g2))
theorem rL_octets {d : Nat} {Q : ps_Rs → ps_G → Prop} {g : ps_G} {x0 : Nat} {x1 : Int32} {x2 : Nat} {r : Int32 × ps_G} (h : fL_octets g x0 x1 x2 = some r) (hk : Q (.inl (some (.int r.1))) r.2) : ps_Ok mL_octets (d + 8) [.ref x0, .int x1, .ref x2] g Q := by
  unfold fL_octets at h
  replace h := q_be h
  obtain ⟨u, hv, h⟩ := h
  replace hv := q_ob_e hv
  obtain ⟨_, cu⟩ := hv
  refine sL_octets_0 ?_
  refine ⟨⟨some _, rfl⟩, ⟨some _, rfl⟩, ?_⟩
  refine ps_invvH (M := mL_octets) (M' := mX11_octets) (pc := 4) (av := [.int x1]) (rest := [.int (0 : Int32), .ref x2]) hL_octets (by decide +kernel) lX11_octets ps_w8_234 ps_w8_235 ps_w8_236 ⟨_, _, rfl⟩ cu rfl (Nat.le_of_ble_eq_true rfl) (Nat.le_of_ble_eq_true rfl) rfl kL_octets rfl ?_
  rcases q_wr_e h with ⟨E, k, g1, hv, he, rfl⟩ | ⟨v, g1, hv, h⟩
  · exact rX11_octets hv ⟨q_hfx kL_octets he, _, he, hk⟩
  refine rX11_octets hv ?_
  refine sL_octets_7 ?_
  replace h := q_be h
  obtain ⟨g2, hv, h⟩ := h
  replace hv := q_wL_e hv
  obtain ⟨_, _, cg, ig, yg⟩ := hv
  cases h
  refine ⟨_, _, cg, ig, _, yg, ?_⟩
  refine sL_octets_14 ?_
  exact ⟨rfl, hk⟩
noncomputable def fL_undo (g : ps_G) (x0 : Nat) (x1 : Nat) : Option (Int32 × ps_G) := Option.bind (q_ob 11 g x0) fun _ => q_wr hL_undo (fX11_undo g x0) (fun v g1 => Option.bind (q_wL g1 x1 (0 : Int32) (Int32.toInt64 v)) fun g2 => some ((0 : Int32), g2))
theorem rL_undo {d : Nat} {Q : ps_Rs → ps_G → Prop} {g : ps_G} {x0 : Nat} {x1 : Nat} {r : Int32 × ps_G} (h : fL_undo g x0 x1 = some r) (hk : Q (.inl (some (.int r.1))) r.2) : ps_Ok mL_undo (d + 7) [.ref x0, .ref x1] g Q := by
  unfold fL_undo at h
  replace h := q_be h
  obtain ⟨u, hv, h⟩ := h
  replace hv := q_ob_e hv
  obtain ⟨_, cu⟩ := hv
  refine sL_undo_0 ?_
  refine ⟨⟨some _, rfl⟩, ⟨some _, rfl⟩, ?_⟩
  refine ps_invvH (M := mL_undo) (M' := mX11_undo) (pc := 3) (av := []) (rest := [.int (0 : Int32), .ref x1]) hL_undo (by decide +kernel) lX11_undo ps_w9_5 ps_w9_6 ps_w9_7 ⟨_, _, rfl⟩ cu rfl (Nat.le_of_ble_eq_true rfl) (Nat.le_of_ble_eq_true rfl) rfl kL_undo rfl ?_
  rcases q_wr_e h with ⟨E, k, g1, hv, he, rfl⟩ | ⟨v, g1, hv, h⟩
  · exact rX11_undo hv ⟨q_hfx kL_undo he, _, he, hk⟩
  refine rX11_undo hv ?_
  refine sL_undo_6 ?_
  replace h := q_be h
  obtain ⟨g2, hv, h⟩ := h
  replace hv := q_wL_e hv
  obtain ⟨_, _, cg, ig, yg⟩ := hv
  cases h
  refine ⟨_, _, cg, ig, _, yg, ?_⟩
  refine sL_undo_14 ?_
  exact ⟨rfl, hk⟩
noncomputable def fL_redo (g : ps_G) (x0 : Nat) (x1 : Nat) : Option (Int32 × ps_G) := Option.bind (q_ob 11 g x0) fun _ => q_wr hL_redo (fX11_redo g x0) (fun v g1 => Option.bind (q_wL g1 x1 (0 : Int32) (Int32.toInt64 v)) fun g2 => some ((0 : Int32), g2))
theorem rL_redo {d : Nat} {Q : ps_Rs → ps_G → Prop} {g : ps_G} {x0 : Nat} {x1 : Nat} {r : Int32 × ps_G} (h : fL_redo g x0 x1 = some r) (hk : Q (.inl (some (.int r.1))) r.2) : ps_Ok mL_redo (d + 7) [.ref x0, .ref x1] g Q := by
  unfold fL_redo at h
  replace h := q_be h
  obtain ⟨u, hv, h⟩ := h
  replace hv := q_ob_e hv
  obtain ⟨_, cu⟩ := hv
  refine sL_redo_0 ?_
  refine ⟨⟨some _, rfl⟩, ⟨some _, rfl⟩, ?_⟩
  refine ps_invvH (M := mL_redo) (M' := mX11_redo) (pc := 3) (av := []) (rest := [.int (0 : Int32), .ref x1]) hL_redo (by decide +kernel) lX11_redo ps_w9_13 ps_w9_14 ps_w9_15 ⟨_, _, rfl⟩ cu rfl (Nat.le_of_ble_eq_true rfl) (Nat.le_of_ble_eq_true rfl) rfl kL_redo rfl ?_
  rcases q_wr_e h with ⟨E, k, g1, hv, he, rfl⟩ | ⟨v, g1, hv, h⟩
  · exact rX11_redo hv ⟨q_hfx kL_redo he, _, he, hk⟩
  refine rX11_redo hv ?_
  refine sL_redo_6 ?_
  replace h := q_be h
  obtain ⟨g2, hv, h⟩ := h
  replace hv := q_wL_e hv
  obtain ⟨_, _, cg, ig, yg⟩ := hv
  cases h
  refine ⟨_, _, cg, ig, _, yg, ?_⟩
  refine sL_redo_14 ?_
  exact ⟨rfl, hk⟩
