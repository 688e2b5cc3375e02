-- needs: 97zzzzl
/-! ===== the law: its cases (written by tools/law.py) ===== -/
def GL (L : Nat) (xs : Nat → Int32) (g : ps_G) : Prop := g.2.2 7 = .inl (0, (L, .inl xs))
theorem gl_x {s : e_S} {g g1 : ps_G} {L : Nat} {xs : Nat → Int32} (hR : Rel s g) (h : GL L xs g) (e : Ext g g1) : GL L xs g1 := by
  have := rel_g hR
  unfold GL at h ⊢
  rw [e.2.2.2.2 7 (by omega)]
  exact h
theorem rd0 {s : e_S} {g : ps_G} {L i : Nat} {xs : Nat → Int32} (h : GL L xs g) (hi : i < L) (hL : L ≤ 448) : q_aI (e_g s g) 7 (Int32.ofNat i) = some (xs i) := by
  rw [d_aI (Or.inr (Or.inl (by decide))) h, n_idx (by omega), if_neg (n_in2 hi (by omega))]
theorem rd1 {s : e_S} {g : ps_G} {L i : Nat} {xs : Nat → Int32} (h : GL L xs g) (hi : i + 7 ≤ L) (hL : L ≤ 448) : q_aI (e_g s g) 7 (Int32.ofNat i + 1) = some (xs (i + 1)) := by
  have e : Int32.ofNat i + 1 = Int32.ofNat (i + 1) := n_add (m := 1)
  rw [e]
  exact rd0 h (by omega) hL
theorem rd2 {s : e_S} {g : ps_G} {L i : Nat} {xs : Nat → Int32} (h : GL L xs g) (hi : i + 7 ≤ L) (hL : L ≤ 448) : q_aI (e_g s g) 7 (Int32.ofNat i + 2) = some (xs (i + 2)) := by
  have e : Int32.ofNat i + 2 = Int32.ofNat (i + 2) := n_add (m := 2)
  rw [e]
  exact rd0 h (by omega) hL
theorem rd3 {s : e_S} {g : ps_G} {L i : Nat} {xs : Nat → Int32} (h : GL L xs g) (hi : i + 7 ≤ L) (hL : L ≤ 448) : q_aI (e_g s g) 7 (Int32.ofNat i + 3) = some (xs (i + 3)) := by
  have e : Int32.ofNat i + 3 = Int32.ofNat (i + 3) := n_add (m := 3)
  rw [e]
  exact rd0 h (by omega) hL
theorem rd4 {s : e_S} {g : ps_G} {L i : Nat} {xs : Nat → Int32} (h : GL L xs g) (hi : i + 7 ≤ L) (hL : L ≤ 448) : q_aI (e_g s g) 7 (Int32.ofNat i + 4) = some (xs (i + 4)) := by
  have e : Int32.ofNat i + 4 = Int32.ofNat (i + 4) := n_add (m := 4)
  rw [e]
  exact rd0 h (by omega) hL
theorem rd5 {s : e_S} {g : ps_G} {L i : Nat} {xs : Nat → Int32} (h : GL L xs g) (hi : i + 7 ≤ L) (hL : L ≤ 448) : q_aI (e_g s g) 7 (Int32.ofNat i + 5) = some (xs (i + 5)) := by
  have e : Int32.ofNat i + 5 = Int32.ofNat (i + 5) := n_add (m := 5)
  rw [e]
  exact rd0 h (by omega) hL
theorem rd6 {s : e_S} {g : ps_G} {L i : Nat} {xs : Nat → Int32} (h : GL L xs g) (hi : i + 7 ≤ L) (hL : L ≤ 448) : q_aI (e_g s g) 7 (Int32.ofNat i + 6) = some (xs (i + 6)) := by
  have e : Int32.ofNat i + 6 = Int32.ofNat (i + 6) := n_add (m := 6)
  rw [e]
  exact rd0 h (by omega) hL
theorem thrown12 {s : e_S} {g : ps_G} : fX12_thrown (e_g s g) 139 = some (s.1 139 0) := by
  unfold fX12_thrown
  rw [f139_0, ob_n]
theorem lg_rf {x : Int64} : lg_cmp x x = 0 := by
  have a : ¬ x > x := Int64.lt_irrefl
  unfold lg_cmp
  rw [if_neg a, if_pos rfl]
theorem lw_t {α : Type} {s : e_S} {g : ps_G} {k : Int32} {b : Int64} {J E1 E2 : Option α} (c3 : s.1 139 0 = k) (c4 : k = 0 → s.2.2.2 194 0 = b) : (Option.bind (q_ob 12 (e_g s g) 139) fun _ => Option.bind (fX12_thrown (e_g s g) 139) fun v24 => if v24 = k then (if ¬ k = 0 then J else (Option.bind (q_aL (e_g s g) 194 (0 : Int32)) fun v27 => if (lg_cmp v27 b) = 0 then J else E1)) else E2) = J := by
  rw [ob139, ob_n, thrown12, ob_n, if_pos c3]
  by_cases q : k = 0
  · have z : ¬ ((0 : Int32) < 0 ∨ 1 ≤ (0 : Int32).toNatClampNeg) := by decide
    have z2 : (0 : Int32).toNatClampNeg = 0 := by decide
    rw [if_neg (fun y => y q), a194, if_neg z, ob_n, z2, c4 q, lg_rf, if_pos rfl]
  · rw [if_pos q]
theorem lw_v {α : Type} {s : e_S} {g : ps_G} {k : Int32} {J E2 : Option α} (c3 : s.1 139 0 = k) : (Option.bind (q_ob 12 (e_g s g) 139) fun _ => Option.bind (fX12_thrown (e_g s g) 139) fun v24 => if v24 = k then J else E2) = J := by
  rw [ob139, ob_n, thrown12, ob_n, if_pos c3]
/-- a case is gone on from -/
def LwR (i : Nat) (g : ps_G) (t : Option ((Int32 × ps_G) ⊕ ((ps_G) ⊕ (Int32 × ps_G)))) : Prop := ∃ s2 g1, t = some (.inl (Int32.ofNat i + 7, e_g s2 g1)) ∧ Rel s2 g1 ∧ Ext g g1
theorem lw_i {i : Nat} {g : ps_G} {p : Prop} {dp : Decidable p} {A B : Option ((Int32 × ps_G) ⊕ ((ps_G) ⊕ (Int32 × ps_G)))} (h1 : LwR i g A) (h2 : LwR i g B) : LwR i g (@ite _ p dp A B) := by
  by_cases q : p
  · rw [if_pos q]; exact h1
  · rw [if_neg q]; exact h2
theorem lw_feed {s : e_S} {g : ps_G} {xs : Nat → Int32} {L i : Nat} (hR : Rel s g) (hX : GL L xs g) (hi : i + 7 ≤ L) (hL : L ≤ 448) : LwR i g (jL_law_248_23 (e_g s g) 7 8 139 194 (Int32.ofNat i)) := by
  have K : KI (fL_feed (e_g s g) 8 (xs (i + 1)) (xs (i + 2)) (xs (i + 3)) (xs (i + 4)) (xs (i + 5)) 194) (fun G => fX12_feed G 139 (xs (i + 1)) (xs (i + 2)) (xs (i + 3)) (xs (i + 4)) (xs (i + 5))) g := K_feed hR
  obtain ⟨s2, g1, ⟨k, s1, b, c1, c2, c3, c4⟩, r, e⟩ := K
  have c2' : fX12_feed (e_g s1 g1) 139 (xs (i + 1)) (xs (i + 2)) (xs (i + 3)) (xs (i + 4)) (xs (i + 5)) = some (b, e_g s2 g1) := c2
  have X1 := gl_x hR hX e
  refine ⟨s2, g1, ?_, r, e⟩
  unfold jL_law_248_23
  rw [rd1 hX hi hL, ob_n, rd2 hX hi hL, ob_n, rd3 hX hi hL, ob_n, rd4 hX hi hL, ob_n, rd5 hX hi hL, ob_n, c1, b2_n, rd1 X1 hi hL, ob_n, rd2 X1 hi hL, ob_n, rd3 X1 hi hL, ob_n, rd4 X1 hi hL, ob_n, rd5 X1 hi hL, ob_n, ob139, ob_n, c2', b2_n]
  exact (lw_t c3 c4).trans rfl
theorem lw_end {s : e_S} {g : ps_G} {xs : Nat → Int32} {L i : Nat} (hR : Rel s g) (hX : GL L xs g) (hi : i + 7 ≤ L) (hL : L ≤ 448) : LwR i g (jL_law_352_23 (e_g s g) 7 8 139 194 (Int32.ofNat i)) := by
  have K : KI (fL_end (e_g s g) 8 (xs (i + 1)) 194) (fun G => fX12_end G 139 (xs (i + 1))) g := K_end hR
  obtain ⟨s2, g1, ⟨k, s1, b, c1, c2, c3, c4⟩, r, e⟩ := K
  have c2' : fX12_end (e_g s1 g1) 139 (xs (i + 1)) = some (b, e_g s2 g1) := c2
  have X1 := gl_x hR hX e
  refine ⟨s2, g1, ?_, r, e⟩
  unfold jL_law_352_23
  rw [rd1 hX hi hL, ob_n, c1, b2_n, rd1 X1 hi hL, ob_n, ob139, ob_n, c2', b2_n]
  exact (lw_t c3 c4).trans rfl
theorem lw_fault {s : e_S} {g : ps_G} {xs : Nat → Int32} {L i : Nat} (hR : Rel s g) (hX : GL L xs g) (hi : i + 7 ≤ L) (hL : L ≤ 448) : LwR i g (jL_law_408_23 (e_g s g) 7 8 139 194 (Int32.ofNat i)) := by
  obtain ⟨v, c1, c2, r⟩ := K_fault (a := xs (i + 1)) hR
  refine ⟨sF s 139 0 0, g, ?_, r, ext_rf⟩
  unfold jL_law_408_23
  rw [rd1 hX hi hL, ob_n, ob8, ob_n, c1, ob_n, ob_n, ob139, ob_n, c2, b2_n, if_pos rfl]
  rfl
theorem lw_open {s : e_S} {g : ps_G} {xs : Nat → Int32} {L i : Nat} (hR : Rel s g) (hX : GL L xs g) (hi : i + 7 ≤ L) (hL : L ≤ 448) : LwR i g (jL_law_433_23 (e_g s g) 7 8 139 194 (Int32.ofNat i)) := by
  have K : KV (fL_open (e_g s g) 8 (xs (i + 1)) (xs (i + 2))) (fun G => fX12_open G 139 (xs (i + 1)) (xs (i + 2))) g := K_open hR
  obtain ⟨s2, g1, ⟨k, s1, c1, c2, c3⟩, r, e⟩ := K
  have c2' : fX12_open (e_g s1 g1) 139 (xs (i + 1)) (xs (i + 2)) = some (e_g s2 g1) := c2
  have X1 := gl_x hR hX e
  refine ⟨s2, g1, ?_, r, e⟩
  unfold jL_law_433_23
  rw [rd1 hX hi hL, ob_n, rd2 hX hi hL, ob_n, c1, b2_n, rd1 X1 hi hL, ob_n, rd2 X1 hi hL, ob_n, ob139, ob_n, c2', ob_n]
  exact (lw_v c3).trans rfl
theorem lw_layer {s : e_S} {g : ps_G} {xs : Nat → Int32} {L i : Nat} (hR : Rel s g) (hX : GL L xs g) (hi : i + 7 ≤ L) (hL : L ≤ 448) : LwR i g (jL_law_481_23 (e_g s g) 7 8 139 194 (Int32.ofNat i)) := by
  have K : KI (fL_layer (e_g s g) 8 (xs (i + 1)) (xs (i + 2)) (xs (i + 3)) 194) (fun G => fX12_layer G 139 (xs (i + 1)) (xs (i + 2)) (xs (i + 3))) g := K_layer hR
  obtain ⟨s2, g1, ⟨k, s1, b, c1, c2, c3, c4⟩, r, e⟩ := K
  have c2' : fX12_layer (e_g s1 g1) 139 (xs (i + 1)) (xs (i + 2)) (xs (i + 3)) = some (b, e_g s2 g1) := c2
  have X1 := gl_x hR hX e
  refine ⟨s2, g1, ?_, r, e⟩
  unfold jL_law_481_23
  rw [rd1 hX hi hL, ob_n, rd2 hX hi hL, ob_n, rd3 hX hi hL, ob_n, c1, b2_n, rd1 X1 hi hL, ob_n, rd2 X1 hi hL, ob_n, rd3 X1 hi hL, ob_n, ob139, ob_n, c2', b2_n]
  exact (lw_t c3 c4).trans rfl
theorem lw_drop {s : e_S} {g : ps_G} {xs : Nat → Int32} {L i : Nat} (hR : Rel s g) (hX : GL L xs g) (hi : i + 7 ≤ L) (hL : L ≤ 448) : LwR i g (jL_law_561_23 (e_g s g) 7 8 139 194 (Int32.ofNat i)) := by
  have K : KV (fL_drop (e_g s g) 8 (xs (i + 1))) (fun G => fX12_drop G 139 (xs (i + 1))) g := K_drop hR
  obtain ⟨s2, g1, ⟨k, s1, c1, c2, c3⟩, r, e⟩ := K
  have c2' : fX12_drop (e_g s1 g1) 139 (xs (i + 1)) = some (e_g s2 g1) := c2
  have X1 := gl_x hR hX e
  refine ⟨s2, g1, ?_, r, e⟩
  unfold jL_law_561_23
  rw [rd1 hX hi hL, ob_n, c1, b2_n, rd1 X1 hi hL, ob_n, ob139, ob_n, c2', ob_n]
  exact (lw_v c3).trans rfl
theorem lw_move {s : e_S} {g : ps_G} {xs : Nat → Int32} {L i : Nat} (hR : Rel s g) (hX : GL L xs g) (hi : i + 7 ≤ L) (hL : L ≤ 448) : LwR i g (jL_law_597_23 (e_g s g) 7 8 139 194 (Int32.ofNat i)) := by
  have K : KV (fL_move (e_g s g) 8 (xs (i + 1)) (xs (i + 2)) (xs (i + 3))) (fun G => fX12_move G 139 (xs (i + 1)) (xs (i + 2)) (xs (i + 3))) g := K_move hR
  obtain ⟨s2, g1, ⟨k, s1, c1, c2, c3⟩, r, e⟩ := K
  have c2' : fX12_move (e_g s1 g1) 139 (xs (i + 1)) (xs (i + 2)) (xs (i + 3)) = some (e_g s2 g1) := c2
  have X1 := gl_x hR hX e
  refine ⟨s2, g1, ?_, r, e⟩
  unfold jL_law_597_23
  rw [rd1 hX hi hL, ob_n, rd2 hX hi hL, ob_n, rd3 hX hi hL, ob_n, c1, b2_n, rd1 X1 hi hL, ob_n, rd2 X1 hi hL, ob_n, rd3 X1 hi hL, ob_n, ob139, ob_n, c2', ob_n]
  exact (lw_v c3).trans rfl
theorem lw_set {s : e_S} {g : ps_G} {xs : Nat → Int32} {L i : Nat} (hR : Rel s g) (hX : GL L xs g) (hi : i + 7 ≤ L) (hL : L ≤ 448) : LwR i g (jL_law_657_23 (e_g s g) 7 8 139 194 (Int32.ofNat i)) := by
  have K : KV (fL_set (e_g s g) 8 (xs (i + 1)) (xs (i + 2)) (xs (i + 3))) (fun G => fX12_set G 139 (xs (i + 1)) (xs (i + 2)) (xs (i + 3))) g := K_set hR
  obtain ⟨s2, g1, ⟨k, s1, c1, c2, c3⟩, r, e⟩ := K
  have c2' : fX12_set (e_g s1 g1) 139 (xs (i + 1)) (xs (i + 2)) (xs (i + 3)) = some (e_g s2 g1) := c2
  have X1 := gl_x hR hX e
  refine ⟨s2, g1, ?_, r, e⟩
  unfold jL_law_657_23
  rw [rd1 hX hi hL, ob_n, rd2 hX hi hL, ob_n, rd3 hX hi hL, ob_n, c1, b2_n, rd1 X1 hi hL, ob_n, rd2 X1 hi hL, ob_n, rd3 X1 hi hL, ob_n, ob139, ob_n, c2', ob_n]
  exact (lw_v c3).trans rfl
theorem lw_mask {s : e_S} {g : ps_G} {xs : Nat → Int32} {L i : Nat} (hR : Rel s g) (hX : GL L xs g) (hi : i + 7 ≤ L) (hL : L ≤ 448) : LwR i g (jL_law_717_23 (e_g s g) 7 8 139 194 (Int32.ofNat i)) := by
  have K : KV (fL_mask (e_g s g) 8 (xs (i + 1)) (xs (i + 2))) (fun G => fX12_mask G 139 (xs (i + 1)) (xs (i + 2))) g := K_mask hR
  obtain ⟨s2, g1, ⟨k, s1, c1, c2, c3⟩, r, e⟩ := K
  have c2' : fX12_mask (e_g s1 g1) 139 (xs (i + 1)) (xs (i + 2)) = some (e_g s2 g1) := c2
  have X1 := gl_x hR hX e
  refine ⟨s2, g1, ?_, r, e⟩
  unfold jL_law_717_23
  rw [rd1 hX hi hL, ob_n, rd2 hX hi hL, ob_n, c1, b2_n, rd1 X1 hi hL, ob_n, rd2 X1 hi hL, ob_n, ob139, ob_n, c2', ob_n]
  exact (lw_v c3).trans rfl
theorem lw_colours {s : e_S} {g : ps_G} {xs : Nat → Int32} {L i : Nat} (hR : Rel s g) (hX : GL L xs g) (hi : i + 7 ≤ L) (hL : L ≤ 448) : LwR i g (jL_law_765_23 (e_g s g) 7 8 139 194 (Int32.ofNat i)) := by
  have K : KV (fL_colours (e_g s g) 8 (xs (i + 1)) (xs (i + 2)) (xs (i + 3))) (fun G => fX12_colours G 139 (xs (i + 1)) (xs (i + 2)) (xs (i + 3))) g := K_colours hR
  obtain ⟨s2, g1, ⟨k, s1, c1, c2, c3⟩, r, e⟩ := K
  have c2' : fX12_colours (e_g s1 g1) 139 (xs (i + 1)) (xs (i + 2)) (xs (i + 3)) = some (e_g s2 g1) := c2
  have X1 := gl_x hR hX e
  refine ⟨s2, g1, ?_, r, e⟩
  unfold jL_law_765_23
  rw [rd1 hX hi hL, ob_n, rd2 hX hi hL, ob_n, rd3 hX hi hL, ob_n, c1, b2_n, rd1 X1 hi hL, ob_n, rd2 X1 hi hL, ob_n, rd3 X1 hi hL, ob_n, ob139, ob_n, c2', ob_n]
  exact (lw_v c3).trans rfl
theorem lw_ramp {s : e_S} {g : ps_G} {xs : Nat → Int32} {L i : Nat} (hR : Rel s g) (hX : GL L xs g) (hi : i + 7 ≤ L) (hL : L ≤ 448) : LwR i g (jL_law_825_23 (e_g s g) 7 8 139 194 (Int32.ofNat i)) := by
  have K : KV (fL_ramp (e_g s g) 8 (xs (i + 1)) (xs (i + 2)) (xs (i + 3)) (xs (i + 4)) (xs (i + 5))) (fun G => fX12_ramp G 139 (xs (i + 1)) (xs (i + 2)) (xs (i + 3)) (xs (i + 4)) (xs (i + 5))) g := K_ramp hR
  obtain ⟨s2, g1, ⟨k, s1, c1, c2, c3⟩, r, e⟩ := K
  have c2' : fX12_ramp (e_g s1 g1) 139 (xs (i + 1)) (xs (i + 2)) (xs (i + 3)) (xs (i + 4)) (xs (i + 5)) = some (e_g s2 g1) := c2
  have X1 := gl_x hR hX e
  refine ⟨s2, g1, ?_, r, e⟩
  unfold jL_law_825_23
  rw [rd1 hX hi hL, ob_n, rd2 hX hi hL, ob_n, rd3 hX hi hL, ob_n, rd4 hX hi hL, ob_n, rd5 hX hi hL, ob_n, c1, b2_n, rd1 X1 hi hL, ob_n, rd2 X1 hi hL, ob_n, rd3 X1 hi hL, ob_n, rd4 X1 hi hL, ob_n, rd5 X1 hi hL, ob_n, ob139, ob_n, c2', ob_n]
  exact (lw_v c3).trans rfl
theorem lw_turn {s : e_S} {g : ps_G} {xs : Nat → Int32} {L i : Nat} (hR : Rel s g) (hX : GL L xs g) (hi : i + 7 ≤ L) (hL : L ≤ 448) : LwR i g (jL_law_909_23 (e_g s g) 7 8 139 194 (Int32.ofNat i)) := by
  have K : KV (fL_turn (e_g s g) 8 (xs (i + 1)) (xs (i + 2))) (fun G => fX12_turn G 139 (xs (i + 1)) (xs (i + 2))) g := K_turn hR
  obtain ⟨s2, g1, ⟨k, s1, c1, c2, c3⟩, r, e⟩ := K
  have c2' : fX12_turn (e_g s1 g1) 139 (xs (i + 1)) (xs (i + 2)) = some (e_g s2 g1) := c2
  have X1 := gl_x hR hX e
  refine ⟨s2, g1, ?_, r, e⟩
  unfold jL_law_909_23
  rw [rd1 hX hi hL, ob_n, rd2 hX hi hL, ob_n, c1, b2_n, rd1 X1 hi hL, ob_n, rd2 X1 hi hL, ob_n, ob139, ob_n, c2', ob_n]
  exact (lw_v c3).trans rfl
theorem lw_scale {s : e_S} {g : ps_G} {xs : Nat → Int32} {L i : Nat} (hR : Rel s g) (hX : GL L xs g) (hi : i + 7 ≤ L) (hL : L ≤ 448) : LwR i g (jL_law_957_23 (e_g s g) 7 8 139 194 (Int32.ofNat i)) := by
  have K : KV (fL_scale (e_g s g) 8 (xs (i + 1)) (xs (i + 2)) (xs (i + 3)) (if (xs (i + 4)) = 0 then (0 : Int32) else (1 : Int32))) (fun G => fX12_scale G 139 (xs (i + 1)) (xs (i + 2)) (xs (i + 3)) (if (xs (i + 4)) = 0 then (0 : Int32) else (1 : Int32))) g := K_scale hR
  obtain ⟨s2, g1, ⟨k, s1, c1, c2, c3⟩, r, e⟩ := K
  have c2' : fX12_scale (e_g s1 g1) 139 (xs (i + 1)) (xs (i + 2)) (xs (i + 3)) (if (xs (i + 4)) = 0 then (0 : Int32) else (1 : Int32)) = some (e_g s2 g1) := c2
  have X1 := gl_x hR hX e
  refine ⟨s2, g1, ?_, r, e⟩
  unfold jL_law_957_23
  rw [rd1 hX hi hL, ob_n, rd2 hX hi hL, ob_n, rd3 hX hi hL, ob_n, rd4 hX hi hL, ob_n, c1, b2_n, rd1 X1 hi hL, ob_n, rd2 X1 hi hL, ob_n, rd3 X1 hi hL, ob_n, rd4 X1 hi hL, ob_n, ob139, ob_n, c2', ob_n]
  exact (lw_v c3).trans rfl
theorem lw_flat {s : e_S} {g : ps_G} {xs : Nat → Int32} {L i : Nat} (hR : Rel s g) (hX : GL L xs g) (hi : i + 7 ≤ L) (hL : L ≤ 448) : LwR i g (jL_law_1045_23 (e_g s g) 7 8 139 194 (Int32.ofNat i)) := by
  have K : KV (fL_flat (e_g s g) 8 (xs (i + 1))) (fun G => fX12_flat G 139 (xs (i + 1))) g := K_flat hR
  obtain ⟨s2, g1, ⟨k, s1, c1, c2, c3⟩, r, e⟩ := K
  have c2' : fX12_flat (e_g s1 g1) 139 (xs (i + 1)) = some (e_g s2 g1) := c2
  have X1 := gl_x hR hX e
  refine ⟨s2, g1, ?_, r, e⟩
  unfold jL_law_1045_23
  rw [rd1 hX hi hL, ob_n, c1, b2_n, rd1 X1 hi hL, ob_n, ob139, ob_n, c2', ob_n]
  exact (lw_v c3).trans rfl
theorem lw_fill {s : e_S} {g : ps_G} {xs : Nat → Int32} {L i : Nat} (hR : Rel s g) (hX : GL L xs g) (hi : i + 7 ≤ L) (hL : L ≤ 448) : LwR i g (jL_law_1081_23 (e_g s g) 7 8 139 194 (Int32.ofNat i)) := by
  have K : KI (fL_fill (e_g s g) 8 (xs (i + 1)) (xs (i + 2)) 194) (fun G => fX12_fill G 139 (xs (i + 1)) (xs (i + 2))) g := K_fill hR
  obtain ⟨s2, g1, ⟨k, s1, b, c1, c2, c3, c4⟩, r, e⟩ := K
  have c2' : fX12_fill (e_g s1 g1) 139 (xs (i + 1)) (xs (i + 2)) = some (b, e_g s2 g1) := c2
  have X1 := gl_x hR hX e
  refine ⟨s2, g1, ?_, r, e⟩
  unfold jL_law_1081_23
  rw [rd1 hX hi hL, ob_n, rd2 hX hi hL, ob_n, c1, b2_n, rd1 X1 hi hL, ob_n, rd2 X1 hi hL, ob_n, ob139, ob_n, c2', b2_n]
  exact (lw_t c3 c4).trans rfl
theorem lw_merge {s : e_S} {g : ps_G} {xs : Nat → Int32} {L i : Nat} (hR : Rel s g) (hX : GL L xs g) (hi : i + 7 ≤ L) (hL : L ≤ 448) : LwR i g (jL_law_1149_23 (e_g s g) 7 8 139 194 (Int32.ofNat i)) := by
  have K : KV (fL_merge (e_g s g) 8 (xs (i + 1))) (fun G => fX12_merge G 139 (xs (i + 1))) g := K_merge hR
  obtain ⟨s2, g1, ⟨k, s1, c1, c2, c3⟩, r, e⟩ := K
  have c2' : fX12_merge (e_g s1 g1) 139 (xs (i + 1)) = some (e_g s2 g1) := c2
  have X1 := gl_x hR hX e
  refine ⟨s2, g1, ?_, r, e⟩
  unfold jL_law_1149_23
  rw [rd1 hX hi hL, ob_n, c1, b2_n, rd1 X1 hi hL, ob_n, ob139, ob_n, c2', ob_n]
  exact (lw_v c3).trans rfl
theorem lw_stroke {s : e_S} {g : ps_G} {xs : Nat → Int32} {L i : Nat} (hR : Rel s g) (hX : GL L xs g) (hi : i + 7 ≤ L) (hL : L ≤ 448) : LwR i g (jL_law_1185_23 (e_g s g) 7 8 139 194 (Int32.ofNat i)) := by
  have K : KI (fL_stroke (e_g s g) 8 (xs (i + 1)) (xs (i + 2)) 194) (fun G => fX12_stroke G 139 (xs (i + 1)) (xs (i + 2))) g := K_stroke hR
  obtain ⟨s2, g1, ⟨k, s1, b, c1, c2, c3, c4⟩, r, e⟩ := K
  have c2' : fX12_stroke (e_g s1 g1) 139 (xs (i + 1)) (xs (i + 2)) = some (b, e_g s2 g1) := c2
  have X1 := gl_x hR hX e
  refine ⟨s2, g1, ?_, r, e⟩
  unfold jL_law_1185_23
  rw [rd1 hX hi hL, ob_n, rd2 hX hi hL, ob_n, c1, b2_n, rd1 X1 hi hL, ob_n, rd2 X1 hi hL, ob_n, ob139, ob_n, c2', b2_n]
  exact (lw_t c3 c4).trans rfl
theorem lw_filter {s : e_S} {g : ps_G} {xs : Nat → Int32} {L i : Nat} (hR : Rel s g) (hX : GL L xs g) (hi : i + 7 ≤ L) (hL : L ≤ 448) : LwR i g (jL_law_1253_23 (e_g s g) 7 8 139 194 (Int32.ofNat i)) := by
  have K : KI (fL_filter (e_g s g) 8 (xs (i + 1)) (xs (i + 2)) (xs (i + 3)) 194) (fun G => fX12_filter G 139 (xs (i + 1)) (xs (i + 2)) (xs (i + 3))) g := K_filter hR
  obtain ⟨s2, g1, ⟨k, s1, b, c1, c2, c3, c4⟩, r, e⟩ := K
  have c2' : fX12_filter (e_g s1 g1) 139 (xs (i + 1)) (xs (i + 2)) (xs (i + 3)) = some (b, e_g s2 g1) := c2
  have X1 := gl_x hR hX e
  refine ⟨s2, g1, ?_, r, e⟩
  unfold jL_law_1253_23
  rw [rd1 hX hi hL, ob_n, rd2 hX hi hL, ob_n, rd3 hX hi hL, ob_n, c1, b2_n, rd1 X1 hi hL, ob_n, rd2 X1 hi hL, ob_n, rd3 X1 hi hL, ob_n, ob139, ob_n, c2', b2_n]
  exact (lw_t c3 c4).trans rfl
theorem lw_path {s : e_S} {g : ps_G} {xs : Nat → Int32} {L i : Nat} (hR : Rel s g) (hX : GL L xs g) (hi : i + 7 ≤ L) (hL : L ≤ 448) : LwR i g (jL_law_1333_23 (e_g s g) 7 8 139 194 (Int32.ofNat i)) := by
  have K : KI (fL_path (e_g s g) 8 (xs (i + 1)) (xs (i + 2)) (xs (i + 3)) 194) (fun G => fX12_path G 139 (xs (i + 1)) (xs (i + 2)) (xs (i + 3))) g := K_path hR
  obtain ⟨s2, g1, ⟨k, s1, b, c1, c2, c3, c4⟩, r, e⟩ := K
  have c2' : fX12_path (e_g s1 g1) 139 (xs (i + 1)) (xs (i + 2)) (xs (i + 3)) = some (b, e_g s2 g1) := c2
  have X1 := gl_x hR hX e
  refine ⟨s2, g1, ?_, r, e⟩
  unfold jL_law_1333_23
  rw [rd1 hX hi hL, ob_n, rd2 hX hi hL, ob_n, rd3 hX hi hL, ob_n, c1, b2_n, rd1 X1 hi hL, ob_n, rd2 X1 hi hL, ob_n, rd3 X1 hi hL, ob_n, ob139, ob_n, c2', b2_n]
  exact (lw_t c3 c4).trans rfl
theorem lw_text {s : e_S} {g : ps_G} {xs : Nat → Int32} {L i : Nat} (hR : Rel s g) (hX : GL L xs g) (hi : i + 7 ≤ L) (hL : L ≤ 448) : LwR i g (jL_law_1413_23 (e_g s g) 7 8 139 194 (Int32.ofNat i)) := by
  have K : KI (fL_text (e_g s g) 8 (xs (i + 1)) (xs (i + 2)) (xs (i + 3)) 194) (fun G => fX12_text G 139 (xs (i + 1)) (xs (i + 2)) (xs (i + 3))) g := K_text hR
  obtain ⟨s2, g1, ⟨k, s1, b, c1, c2, c3, c4⟩, r, e⟩ := K
  have c2' : fX12_text (e_g s1 g1) 139 (xs (i + 1)) (xs (i + 2)) (xs (i + 3)) = some (b, e_g s2 g1) := c2
  have X1 := gl_x hR hX e
  refine ⟨s2, g1, ?_, r, e⟩
  unfold jL_law_1413_23
  rw [rd1 hX hi hL, ob_n, rd2 hX hi hL, ob_n, rd3 hX hi hL, ob_n, c1, b2_n, rd1 X1 hi hL, ob_n, rd2 X1 hi hL, ob_n, rd3 X1 hi hL, ob_n, ob139, ob_n, c2', b2_n]
  exact (lw_t c3 c4).trans rfl
theorem lw_convert {s : e_S} {g : ps_G} {xs : Nat → Int32} {L i : Nat} (hR : Rel s g) (hX : GL L xs g) (hi : i + 7 ≤ L) (hL : L ≤ 448) : LwR i g (jL_law_1493_23 (e_g s g) 7 8 139 194 (Int32.ofNat i)) := by
  have K : KV (fL_convert (e_g s g) 8 (xs (i + 1)) (xs (i + 2)) (xs (i + 3))) (fun G => fX12_convert G 139 (xs (i + 1)) (xs (i + 2)) (xs (i + 3))) g := K_convert hR
  obtain ⟨s2, g1, ⟨k, s1, c1, c2, c3⟩, r, e⟩ := K
  have c2' : fX12_convert (e_g s1 g1) 139 (xs (i + 1)) (xs (i + 2)) (xs (i + 3)) = some (e_g s2 g1) := c2
  have X1 := gl_x hR hX e
  refine ⟨s2, g1, ?_, r, e⟩
  unfold jL_law_1493_23
  rw [rd1 hX hi hL, ob_n, rd2 hX hi hL, ob_n, rd3 hX hi hL, ob_n, c1, b2_n, rd1 X1 hi hL, ob_n, rd2 X1 hi hL, ob_n, rd3 X1 hi hL, ob_n, ob139, ob_n, c2', ob_n]
  exact (lw_v c3).trans rfl
theorem lw_few {s : e_S} {g : ps_G} {xs : Nat → Int32} {L i : Nat} (hR : Rel s g) (hX : GL L xs g) (hi : i + 7 ≤ L) (hL : L ≤ 448) : LwR i g (jL_law_1553_23 (e_g s g) 7 8 139 194 (Int32.ofNat i)) := by
  have K : KI (fL_few (e_g s g) 8 (xs (i + 1)) (xs (i + 2)) (if (xs (i + 3)) = 0 then (0 : Int32) else (1 : Int32)) 194) (fun G => fX12_few G 139 (xs (i + 1)) (xs (i + 2)) (if (xs (i + 3)) = 0 then (0 : Int32) else (1 : Int32))) g := K_few hR
  obtain ⟨s2, g1, ⟨k, s1, b, c1, c2, c3, c4⟩, r, e⟩ := K
  have c2' : fX12_few (e_g s1 g1) 139 (xs (i + 1)) (xs (i + 2)) (if (xs (i + 3)) = 0 then (0 : Int32) else (1 : Int32)) = some (b, e_g s2 g1) := c2
  have X1 := gl_x hR hX e
  refine ⟨s2, g1, ?_, r, e⟩
  unfold jL_law_1553_23
  rw [rd1 hX hi hL, ob_n, rd2 hX hi hL, ob_n, rd3 hX hi hL, ob_n, c1, b2_n, rd1 X1 hi hL, ob_n, rd2 X1 hi hL, ob_n, rd3 X1 hi hL, ob_n, ob139, ob_n, c2', b2_n]
  exact (lw_t c3 c4).trans rfl
theorem lw_raw {s : e_S} {g : ps_G} {xs : Nat → Int32} {L i : Nat} (hR : Rel s g) (hX : GL L xs g) (hi : i + 7 ≤ L) (hL : L ≤ 448) : LwR i g (jL_law_1649_23 (e_g s g) 7 8 139 194 (Int32.ofNat i)) := by
  have K : KI (fL_raw (e_g s g) 8 194) (fun G => fX12_raw G 139) g := K_raw hR
  obtain ⟨s2, g1, ⟨k, s1, b, c1, c2, c3, c4⟩, r, e⟩ := K
  have c2' : fX12_raw (e_g s1 g1) 139 = some (b, e_g s2 g1) := c2
  have X1 := gl_x hR hX e
  refine ⟨s2, g1, ?_, r, e⟩
  unfold jL_law_1649_23
  rw [c1, b2_n, ob139, ob_n, c2', b2_n]
  exact (lw_t c3 c4).trans rfl
theorem lw_png {s : e_S} {g : ps_G} {xs : Nat → Int32} {L i : Nat} (hR : Rel s g) (hX : GL L xs g) (hi : i + 7 ≤ L) (hL : L ≤ 448) : LwR i g (jL_law_1693_23 (e_g s g) 7 8 139 194 (Int32.ofNat i)) := by
  have K : KI (fL_png (e_g s g) 8 194) (fun G => fX12_png G 139) g := K_png hR
  obtain ⟨s2, g1, ⟨k, s1, b, c1, c2, c3, c4⟩, r, e⟩ := K
  have c2' : fX12_png (e_g s1 g1) 139 = some (b, e_g s2 g1) := c2
  have X1 := gl_x hR hX e
  refine ⟨s2, g1, ?_, r, e⟩
  unfold jL_law_1693_23
  rw [c1, b2_n, ob139, ob_n, c2', b2_n]
  exact (lw_t c3 c4).trans rfl
theorem lw_select {s : e_S} {g : ps_G} {xs : Nat → Int32} {L i : Nat} (hR : Rel s g) (hX : GL L xs g) (hi : i + 7 ≤ L) (hL : L ≤ 448) : LwR i g (jL_law_1737_23 (e_g s g) 7 8 139 194 (Int32.ofNat i)) := by
  have K : KI (fL_select (e_g s g) 8 (xs (i + 1)) (xs (i + 2)) (xs (i + 3)) (xs (i + 4)) (xs (i + 5)) (xs (i + 6)) 194) (fun G => fX12_select G 139 (xs (i + 1)) (xs (i + 2)) (xs (i + 3)) (xs (i + 4)) (xs (i + 5)) (xs (i + 6))) g := K_select hR
  obtain ⟨s2, g1, ⟨k, s1, b, c1, c2, c3, c4⟩, r, e⟩ := K
  have c2' : fX12_select (e_g s1 g1) 139 (xs (i + 1)) (xs (i + 2)) (xs (i + 3)) (xs (i + 4)) (xs (i + 5)) (xs (i + 6)) = some (b, e_g s2 g1) := c2
  have X1 := gl_x hR hX e
  refine ⟨s2, g1, ?_, r, e⟩
  unfold jL_law_1737_23
  rw [rd1 hX hi hL, ob_n, rd2 hX hi hL, ob_n, rd3 hX hi hL, ob_n, rd4 hX hi hL, ob_n, rd5 hX hi hL, ob_n, rd6 hX hi hL, ob_n, c1, b2_n, rd1 X1 hi hL, ob_n, rd2 X1 hi hL, ob_n, rd3 X1 hi hL, ob_n, rd4 X1 hi hL, ob_n, rd5 X1 hi hL, ob_n, rd6 X1 hi hL, ob_n, ob139, ob_n, c2', b2_n]
  exact (lw_t c3 c4).trans rfl
theorem lw_reselect {s : e_S} {g : ps_G} {xs : Nat → Int32} {L i : Nat} (hR : Rel s g) (hX : GL L xs g) (hi : i + 7 ≤ L) (hL : L ≤ 448) : LwR i g (jL_law_1855_23 (e_g s g) 7 8 139 194 (Int32.ofNat i)) := by
  have K : KI (fL_reselect (e_g s g) 8 (xs (i + 1)) (xs (i + 2)) 194) (fun G => fX12_reselect G 139 (xs (i + 1)) (xs (i + 2))) g := K_reselect hR
  obtain ⟨s2, g1, ⟨k, s1, b, c1, c2, c3, c4⟩, r, e⟩ := K
  have c2' : fX12_reselect (e_g s1 g1) 139 (xs (i + 1)) (xs (i + 2)) = some (b, e_g s2 g1) := c2
  have X1 := gl_x hR hX e
  refine ⟨s2, g1, ?_, r, e⟩
  unfold jL_law_1855_23
  rw [rd1 hX hi hL, ob_n, rd2 hX hi hL, ob_n, c1, b2_n, rd1 X1 hi hL, ob_n, rd2 X1 hi hL, ob_n, ob139, ob_n, c2', b2_n]
  exact (lw_t c3 c4).trans rfl
theorem lw_selected {s : e_S} {g : ps_G} {xs : Nat → Int32} {L i : Nat} (hR : Rel s g) (hX : GL L xs g) (hi : i + 7 ≤ L) (hL : L ≤ 448) : LwR i g (jL_law_1923_23 (e_g s g) 7 8 139 194 (Int32.ofNat i)) := by
  have K : KI (fL_selected (e_g s g) 8 (xs (i + 1)) (xs (i + 2)) 194) (fun G => fX12_selected G 139 (xs (i + 1)) (xs (i + 2))) g := K_selected hR
  obtain ⟨s2, g1, ⟨k, s1, b, c1, c2, c3, c4⟩, r, e⟩ := K
  have c2' : fX12_selected (e_g s1 g1) 139 (xs (i + 1)) (xs (i + 2)) = some (b, e_g s2 g1) := c2
  have X1 := gl_x hR hX e
  refine ⟨s2, g1, ?_, r, e⟩
  unfold jL_law_1923_23
  rw [rd1 hX hi hL, ob_n, rd2 hX hi hL, ob_n, c1, b2_n, rd1 X1 hi hL, ob_n, rd2 X1 hi hL, ob_n, ob139, ob_n, c2', b2_n]
  exact (lw_t c3 c4).trans rfl
theorem lw_front {s : e_S} {g : ps_G} {xs : Nat → Int32} {L i : Nat} (hR : Rel s g) (hX : GL L xs g) (hi : i + 7 ≤ L) (hL : L ≤ 448) : LwR i g (jL_law_1991_23 (e_g s g) 7 8 139 194 (Int32.ofNat i)) := by
  obtain ⟨c1, c2, r⟩ := K_front (a := xs (i + 1)) hR
  refine ⟨_, g, ?_, r, ext_rf⟩
  unfold jL_law_1991_23
  rw [rd1 hX hi hL, ob_n, ob8, ob_n, c1, ob_n, rd1 hX hi hL, ob_n, ob139, ob_n, c2, ob_n]
  rfl
theorem lw_brush {s : e_S} {g : ps_G} {xs : Nat → Int32} {L i : Nat} (hR : Rel s g) (hX : GL L xs g) (hi : i + 7 ≤ L) (hL : L ≤ 448) : LwR i g (jL_law_2014_23 (e_g s g) 7 8 139 194 (Int32.ofNat i)) := by
  have K : KV (fL_brush (e_g s g) 8 (xs (i + 1)) (xs (i + 2)) (xs (i + 3)) (xs (i + 4)) (xs (i + 5))) (fun G => fX12_brush G 139 (xs (i + 1)) (xs (i + 2)) (xs (i + 3)) (xs (i + 4)) (xs (i + 5))) g := K_brush hR
  obtain ⟨s2, g1, ⟨k, s1, c1, c2, c3⟩, r, e⟩ := K
  have c2' : fX12_brush (e_g s1 g1) 139 (xs (i + 1)) (xs (i + 2)) (xs (i + 3)) (xs (i + 4)) (xs (i + 5)) = some (e_g s2 g1) := c2
  have X1 := gl_x hR hX e
  refine ⟨s2, g1, ?_, r, e⟩
  unfold jL_law_2014_23
  rw [rd1 hX hi hL, ob_n, rd2 hX hi hL, ob_n, rd3 hX hi hL, ob_n, rd4 hX hi hL, ob_n, rd5 hX hi hL, ob_n, c1, b2_n, rd1 X1 hi hL, ob_n, rd2 X1 hi hL, ob_n, rd3 X1 hi hL, ob_n, rd4 X1 hi hL, ob_n, rd5 X1 hi hL, ob_n, ob139, ob_n, c2', ob_n]
  exact (lw_v c3).trans rfl
theorem lw_source {s : e_S} {g : ps_G} {xs : Nat → Int32} {L i : Nat} (hR : Rel s g) (hX : GL L xs g) (hi : i + 7 ≤ L) (hL : L ≤ 448) : LwR i g (jL_law_2098_23 (e_g s g) 7 8 139 194 (Int32.ofNat i)) := by
  have K : KV (fL_source (e_g s g) 8 (xs (i + 1)) (xs (i + 2))) (fun G => fX12_source G 139 (xs (i + 1)) (xs (i + 2))) g := K_source hR
  obtain ⟨s2, g1, ⟨k, s1, c1, c2, c3⟩, r, e⟩ := K
  have c2' : fX12_source (e_g s1 g1) 139 (xs (i + 1)) (xs (i + 2)) = some (e_g s2 g1) := c2
  have X1 := gl_x hR hX e
  refine ⟨s2, g1, ?_, r, e⟩
  unfold jL_law_2098_23
  rw [rd1 hX hi hL, ob_n, rd2 hX hi hL, ob_n, c1, b2_n, rd1 X1 hi hL, ob_n, rd2 X1 hi hL, ob_n, ob139, ob_n, c2', ob_n]
  exact (lw_v c3).trans rfl
theorem lw_point {s : e_S} {g : ps_G} {xs : Nat → Int32} {L i : Nat} (hR : Rel s g) (hX : GL L xs g) (hi : i + 7 ≤ L) (hL : L ≤ 448) : LwR i g (jL_law_2146_23 (e_g s g) 7 8 139 194 (Int32.ofNat i)) := by
  have K : KI (fL_point (e_g s g) 8 (xs (i + 1)) (xs (i + 2)) (xs (i + 3)) 194) (fun G => fX12_point G 139 (xs (i + 1)) (xs (i + 2)) (xs (i + 3))) g := K_point hR
  obtain ⟨s2, g1, ⟨k, s1, b, c1, c2, c3, c4⟩, r, e⟩ := K
  have c2' : fX12_point (e_g s1 g1) 139 (xs (i + 1)) (xs (i + 2)) (xs (i + 3)) = some (b, e_g s2 g1) := c2
  have X1 := gl_x hR hX e
  refine ⟨s2, g1, ?_, r, e⟩
  unfold jL_law_2146_23
  rw [rd1 hX hi hL, ob_n, rd2 hX hi hL, ob_n, rd3 hX hi hL, ob_n, c1, b2_n, rd1 X1 hi hL, ob_n, rd2 X1 hi hL, ob_n, rd3 X1 hi hL, ob_n, ob139, ob_n, c2', b2_n]
  exact (lw_t c3 c4).trans rfl
theorem lw_curve {s : e_S} {g : ps_G} {xs : Nat → Int32} {L i : Nat} (hR : Rel s g) (hX : GL L xs g) (hi : i + 7 ≤ L) (hL : L ≤ 448) : LwR i g (jL_law_2226_23 (e_g s g) 7 8 139 194 (Int32.ofNat i)) := by
  have K : KI (fL_curve (e_g s g) 8 (xs (i + 1)) (xs (i + 2)) (xs (i + 3)) (xs (i + 4)) 194) (fun G => fX12_curve G 139 (xs (i + 1)) (xs (i + 2)) (xs (i + 3)) (xs (i + 4))) g := K_curve hR
  obtain ⟨s2, g1, ⟨k, s1, b, c1, c2, c3, c4⟩, r, e⟩ := K
  have c2' : fX12_curve (e_g s1 g1) 139 (xs (i + 1)) (xs (i + 2)) (xs (i + 3)) (xs (i + 4)) = some (b, e_g s2 g1) := c2
  have X1 := gl_x hR hX e
  refine ⟨s2, g1, ?_, r, e⟩
  unfold jL_law_2226_23
  rw [rd1 hX hi hL, ob_n, rd2 hX hi hL, ob_n, rd3 hX hi hL, ob_n, rd4 hX hi hL, ob_n, c1, b2_n, rd1 X1 hi hL, ob_n, rd2 X1 hi hL, ob_n, rd3 X1 hi hL, ob_n, rd4 X1 hi hL, ob_n, ob139, ob_n, c2', b2_n]
  exact (lw_t c3 c4).trans rfl
theorem lw_kernel {s : e_S} {g : ps_G} {xs : Nat → Int32} {L i : Nat} (hR : Rel s g) (hX : GL L xs g) (hi : i + 7 ≤ L) (hL : L ≤ 448) : LwR i g (jL_law_2318_23 (e_g s g) 7 8 139 194 (Int32.ofNat i)) := by
  have K : KV (fL_kernel (e_g s g) 8 (xs (i + 1)) (xs (i + 2))) (fun G => fX12_kernel G 139 (xs (i + 1)) (xs (i + 2))) g := K_kernel hR
  obtain ⟨s2, g1, ⟨k, s1, c1, c2, c3⟩, r, e⟩ := K
  have c2' : fX12_kernel (e_g s1 g1) 139 (xs (i + 1)) (xs (i + 2)) = some (e_g s2 g1) := c2
  have X1 := gl_x hR hX e
  refine ⟨s2, g1, ?_, r, e⟩
  unfold jL_law_2318_23
  rw [rd1 hX hi hL, ob_n, rd2 hX hi hL, ob_n, c1, b2_n, rd1 X1 hi hL, ob_n, rd2 X1 hi hL, ob_n, ob139, ob_n, c2', ob_n]
  exact (lw_v c3).trans rfl
theorem lw_profile {s : e_S} {g : ps_G} {xs : Nat → Int32} {L i : Nat} (hR : Rel s g) (hX : GL L xs g) (hi : i + 7 ≤ L) (hL : L ≤ 448) : LwR i g (jL_law_2366_23 (e_g s g) 7 8 139 194 (Int32.ofNat i)) := by
  have K : KV (fL_profile (e_g s g) 8 (xs (i + 1)) (xs (i + 2)) (xs (i + 3))) (fun G => fX12_profile G 139 (xs (i + 1)) (xs (i + 2)) (xs (i + 3))) g := K_profile hR
  obtain ⟨s2, g1, ⟨k, s1, c1, c2, c3⟩, r, e⟩ := K
  have c2' : fX12_profile (e_g s1 g1) 139 (xs (i + 1)) (xs (i + 2)) (xs (i + 3)) = some (e_g s2 g1) := c2
  have X1 := gl_x hR hX e
  refine ⟨s2, g1, ?_, r, e⟩
  unfold jL_law_2366_23
  rw [rd1 hX hi hL, ob_n, rd2 hX hi hL, ob_n, rd3 hX hi hL, ob_n, c1, b2_n, rd1 X1 hi hL, ob_n, rd2 X1 hi hL, ob_n, rd3 X1 hi hL, ob_n, ob139, ob_n, c2', ob_n]
  exact (lw_v c3).trans rfl
theorem lw_develop {s : e_S} {g : ps_G} {xs : Nat → Int32} {L i : Nat} (hR : Rel s g) (hX : GL L xs g) (hi : i + 7 ≤ L) (hL : L ≤ 448) : LwR i g (jL_law_2426_23 (e_g s g) 7 8 139 194 (Int32.ofNat i)) := by
  have K : KV (fL_develop (e_g s g) 8 (xs (i + 1)) (xs (i + 2))) (fun G => fX12_develop G 139 (xs (i + 1)) (xs (i + 2))) g := K_develop hR
  obtain ⟨s2, g1, ⟨k, s1, c1, c2, c3⟩, r, e⟩ := K
  have c2' : fX12_develop (e_g s1 g1) 139 (xs (i + 1)) (xs (i + 2)) = some (e_g s2 g1) := c2
  have X1 := gl_x hR hX e
  refine ⟨s2, g1, ?_, r, e⟩
  unfold jL_law_2426_23
  rw [rd1 hX hi hL, ob_n, rd2 hX hi hL, ob_n, c1, b2_n, rd1 X1 hi hL, ob_n, rd2 X1 hi hL, ob_n, ob139, ob_n, c2', ob_n]
  exact (lw_v c3).trans rfl
theorem lw_step {s : e_S} {g : ps_G} {xs : Nat → Int32} {L i : Nat} (hR : Rel s g) (hX : GL L xs g) (hi : i + 7 ≤ L) (hL : L ≤ 448) : LwR i g (jL_law_2474_23 (e_g s g) 7 8 139 194 (Int32.ofNat i)) := by
  have K : KI (fL_step (e_g s g) 8 (xs (i + 1)) (xs (i + 2)) (xs (i + 3)) (xs (i + 4)) 194) (fun G => fX12_step G 139 (xs (i + 1)) (xs (i + 2)) (xs (i + 3)) (xs (i + 4))) g := K_step hR
  obtain ⟨s2, g1, ⟨k, s1, b, c1, c2, c3, c4⟩, r, e⟩ := K
  have c2' : fX12_step (e_g s1 g1) 139 (xs (i + 1)) (xs (i + 2)) (xs (i + 3)) (xs (i + 4)) = some (b, e_g s2 g1) := c2
  have X1 := gl_x hR hX e
  refine ⟨s2, g1, ?_, r, e⟩
  unfold jL_law_2474_23
  rw [rd1 hX hi hL, ob_n, rd2 hX hi hL, ob_n, rd3 hX hi hL, ob_n, rd4 hX hi hL, ob_n, c1, b2_n, rd1 X1 hi hL, ob_n, rd2 X1 hi hL, ob_n, rd3 X1 hi hL, ob_n, rd4 X1 hi hL, ob_n, ob139, ob_n, c2', b2_n]
  exact (lw_t c3 c4).trans rfl
theorem lw_glyph {s : e_S} {g : ps_G} {xs : Nat → Int32} {L i : Nat} (hR : Rel s g) (hX : GL L xs g) (hi : i + 7 ≤ L) (hL : L ≤ 448) : LwR i g (jL_law_2566_23 (e_g s g) 7 8 139 194 (Int32.ofNat i)) := by
  have K : KV (fL_glyph (e_g s g) 8 (xs (i + 1)) (xs (i + 2)) (xs (i + 3))) (fun G => fX12_glyph G 139 (xs (i + 1)) (xs (i + 2)) (xs (i + 3))) g := K_glyph hR
  obtain ⟨s2, g1, ⟨k, s1, c1, c2, c3⟩, r, e⟩ := K
  have c2' : fX12_glyph (e_g s1 g1) 139 (xs (i + 1)) (xs (i + 2)) (xs (i + 3)) = some (e_g s2 g1) := c2
  have X1 := gl_x hR hX e
  refine ⟨s2, g1, ?_, r, e⟩
  unfold jL_law_2566_23
  rw [rd1 hX hi hL, ob_n, rd2 hX hi hL, ob_n, rd3 hX hi hL, ob_n, c1, b2_n, rd1 X1 hi hL, ob_n, rd2 X1 hi hL, ob_n, rd3 X1 hi hL, ob_n, ob139, ob_n, c2', ob_n]
  exact (lw_v c3).trans rfl
theorem lw_see {s : e_S} {g : ps_G} {xs : Nat → Int32} {L i : Nat} (hR : Rel s g) (hX : GL L xs g) (hi : i + 7 ≤ L) (hL : L ≤ 448) : LwR i g (jL_law_2626_23 (e_g s g) 7 8 139 194 (Int32.ofNat i)) := by
  have K : KI (fL_see (e_g s g) 8 (xs (i + 1)) (xs (i + 2)) 194) (fun G => fX12_see G 139 (xs (i + 1)) (xs (i + 2))) g := K_see hR
  obtain ⟨s2, g1, ⟨k, s1, b, c1, c2, c3, c4⟩, r, e⟩ := K
  have c2' : fX12_see (e_g s1 g1) 139 (xs (i + 1)) (xs (i + 2)) = some (b, e_g s2 g1) := c2
  have X1 := gl_x hR hX e
  refine ⟨s2, g1, ?_, r, e⟩
  unfold jL_law_2626_23
  rw [rd1 hX hi hL, ob_n, rd2 hX hi hL, ob_n, c1, b2_n, rd1 X1 hi hL, ob_n, rd2 X1 hi hL, ob_n, ob139, ob_n, c2', b2_n]
  exact (lw_t c3 c4).trans rfl
theorem lw_zoomed {s : e_S} {g : ps_G} {xs : Nat → Int32} {L i : Nat} (hR : Rel s g) (hX : GL L xs g) (hi : i + 7 ≤ L) (hL : L ≤ 448) : LwR i g (jL_law_2694_23 (e_g s g) 7 8 139 194 (Int32.ofNat i)) := by
  have K : KI (fL_zoomed (e_g s g) 8 (xs (i + 1)) (xs (i + 2)) (xs (i + 3)) 194) (fun G => fX12_zoomed G 139 (xs (i + 1)) (xs (i + 2)) (xs (i + 3))) g := K_zoomed hR
  obtain ⟨s2, g1, ⟨k, s1, b, c1, c2, c3, c4⟩, r, e⟩ := K
  have c2' : fX12_zoomed (e_g s1 g1) 139 (xs (i + 1)) (xs (i + 2)) (xs (i + 3)) = some (b, e_g s2 g1) := c2
  have X1 := gl_x hR hX e
  refine ⟨s2, g1, ?_, r, e⟩
  unfold jL_law_2694_23
  rw [rd1 hX hi hL, ob_n, rd2 hX hi hL, ob_n, rd3 hX hi hL, ob_n, c1, b2_n, rd1 X1 hi hL, ob_n, rd2 X1 hi hL, ob_n, rd3 X1 hi hL, ob_n, ob139, ob_n, c2', b2_n]
  exact (lw_t c3 c4).trans rfl
theorem lw_hash {s : e_S} {g : ps_G} {xs : Nat → Int32} {L i : Nat} (hR : Rel s g) (hX : GL L xs g) (hi : i + 7 ≤ L) (hL : L ≤ 448) : LwR i g (jL_law_2774_23 (e_g s g) 7 8 139 194 (Int32.ofNat i)) := by
  obtain ⟨v, s1, s2, c1, c2, r, -⟩ := K_hash hR
  refine ⟨s2, g, ?_, r, ext_rf⟩
  unfold jL_law_2774_23
  rw [ob8, ob_n, c1, b2_n, ob139, ob_n, c2, b2_n, if_pos rfl]
  rfl
theorem lw_pixel {s : e_S} {g : ps_G} {xs : Nat → Int32} {L i : Nat} (hR : Rel s g) (hX : GL L xs g) (hi : i + 7 ≤ L) (hL : L ≤ 448) : LwR i g (jL_law_2787_23 (e_g s g) 7 8 139 194 (Int32.ofNat i)) := by
  have K : KI (fL_pixel (e_g s g) 8 (xs (i + 1)) (xs (i + 2)) (xs (i + 3)) 194) (fun G => fX12_pixel G 139 (xs (i + 1)) (xs (i + 2)) (xs (i + 3))) g := K_pixel hR
  obtain ⟨s2, g1, ⟨k, s1, b, c1, c2, c3, c4⟩, r, e⟩ := K
  have c2' : fX12_pixel (e_g s1 g1) 139 (xs (i + 1)) (xs (i + 2)) (xs (i + 3)) = some (b, e_g s2 g1) := c2
  have X1 := gl_x hR hX e
  refine ⟨s2, g1, ?_, r, e⟩
  unfold jL_law_2787_23
  rw [rd1 hX hi hL, ob_n, rd2 hX hi hL, ob_n, rd3 hX hi hL, ob_n, c1, b2_n, rd1 X1 hi hL, ob_n, rd2 X1 hi hL, ob_n, rd3 X1 hi hL, ob_n, ob139, ob_n, c2', b2_n]
  exact (lw_t c3 c4).trans rfl
theorem lw_masked {s : e_S} {g : ps_G} {xs : Nat → Int32} {L i : Nat} (hR : Rel s g) (hX : GL L xs g) (hi : i + 7 ≤ L) (hL : L ≤ 448) : LwR i g (jL_law_2867_23 (e_g s g) 7 8 139 194 (Int32.ofNat i)) := by
  have K : KI (fL_masked (e_g s g) 8 (xs (i + 1)) (xs (i + 2)) (xs (i + 3)) 194) (fun G => fX12_masked G 139 (xs (i + 1)) (xs (i + 2)) (xs (i + 3))) g := K_masked hR
  obtain ⟨s2, g1, ⟨k, s1, b, c1, c2, c3, c4⟩, r, e⟩ := K
  have c2' : fX12_masked (e_g s1 g1) 139 (xs (i + 1)) (xs (i + 2)) (xs (i + 3)) = some (b, e_g s2 g1) := c2
  have X1 := gl_x hR hX e
  refine ⟨s2, g1, ?_, r, e⟩
  unfold jL_law_2867_23
  rw [rd1 hX hi hL, ob_n, rd2 hX hi hL, ob_n, rd3 hX hi hL, ob_n, c1, b2_n, rd1 X1 hi hL, ob_n, rd2 X1 hi hL, ob_n, rd3 X1 hi hL, ob_n, ob139, ob_n, c2', b2_n]
  exact (lw_t c3 c4).trans rfl
theorem lw_about {s : e_S} {g : ps_G} {xs : Nat → Int32} {L i : Nat} (hR : Rel s g) (hX : GL L xs g) (hi : i + 7 ≤ L) (hL : L ≤ 448) : LwR i g (jL_law_2947_23 (e_g s g) 7 8 139 194 (Int32.ofNat i)) := by
  have K : KI (fL_about (e_g s g) 8 (xs (i + 1)) (xs (i + 2)) 194) (fun G => fX12_about G 139 (xs (i + 1)) (xs (i + 2))) g := K_about hR
  obtain ⟨s2, g1, ⟨k, s1, b, c1, c2, c3, c4⟩, r, e⟩ := K
  have c2' : fX12_about (e_g s1 g1) 139 (xs (i + 1)) (xs (i + 2)) = some (b, e_g s2 g1) := c2
  have X1 := gl_x hR hX e
  refine ⟨s2, g1, ?_, r, e⟩
  unfold jL_law_2947_23
  rw [rd1 hX hi hL, ob_n, rd2 hX hi hL, ob_n, c1, b2_n, rd1 X1 hi hL, ob_n, rd2 X1 hi hL, ob_n, ob139, ob_n, c2', b2_n]
  exact (lw_t c3 c4).trans rfl
theorem lw_made {s : e_S} {g : ps_G} {xs : Nat → Int32} {L i : Nat} (hR : Rel s g) (hX : GL L xs g) (hi : i + 7 ≤ L) (hL : L ≤ 448) : LwR i g (jL_law_3015_23 (e_g s g) 7 8 139 194 (Int32.ofNat i)) := by
  have K : KI (fL_made (e_g s g) 8 (xs (i + 1)) 194) (fun G => fX12_made G 139 (xs (i + 1))) g := K_made hR
  obtain ⟨s2, g1, ⟨k, s1, b, c1, c2, c3, c4⟩, r, e⟩ := K
  have c2' : fX12_made (e_g s1 g1) 139 (xs (i + 1)) = some (b, e_g s2 g1) := c2
  have X1 := gl_x hR hX e
  refine ⟨s2, g1, ?_, r, e⟩
  unfold jL_law_3015_23
  rw [rd1 hX hi hL, ob_n, c1, b2_n, rd1 X1 hi hL, ob_n, ob139, ob_n, c2', b2_n]
  exact (lw_t c3 c4).trans rfl
theorem lw_octets {s : e_S} {g : ps_G} {xs : Nat → Int32} {L i : Nat} (hR : Rel s g) (hX : GL L xs g) (hi : i + 7 ≤ L) (hL : L ≤ 448) : LwR i g (jL_law_3071_23 (e_g s g) 7 8 139 194 (Int32.ofNat i)) := by
  have K : KJ (fL_octets (e_g s g) 8 (xs (i + 1)) 194) (fun G => fX12_octets G 139 (xs (i + 1))) g := K_octets hR
  obtain ⟨s2, g1, ⟨k, s1, b, c1, c2, c3, c4⟩, r, e⟩ := K
  have c2' : fX12_octets (e_g s1 g1) 139 (xs (i + 1)) = some (b, e_g s2 g1) := c2
  have X1 := gl_x hR hX e
  refine ⟨s2, g1, ?_, r, e⟩
  unfold jL_law_3071_23
  rw [rd1 hX hi hL, ob_n, c1, b2_n, rd1 X1 hi hL, ob_n, ob139, ob_n, c2', b2_n]
  exact (lw_t c3 c4).trans rfl
theorem lw_undo {s : e_S} {g : ps_G} {xs : Nat → Int32} {L i : Nat} (hR : Rel s g) (hX : GL L xs g) (hi : i + 7 ≤ L) (hL : L ≤ 448) : LwR i g (jL_law_3126_23 (e_g s g) 7 8 139 194 (Int32.ofNat i)) := by
  have K : KI (fL_undo (e_g s g) 8 194) (fun G => fX12_undo G 139) g := K_undo hR
  obtain ⟨s2, g1, ⟨k, s1, b, c1, c2, c3, c4⟩, r, e⟩ := K
  have c2' : fX12_undo (e_g s1 g1) 139 = some (b, e_g s2 g1) := c2
  have X1 := gl_x hR hX e
  refine ⟨s2, g1, ?_, r, e⟩
  unfold jL_law_3126_23
  rw [c1, b2_n, ob139, ob_n, c2', b2_n]
  exact (lw_t c3 c4).trans rfl
theorem lw_redo {s : e_S} {g : ps_G} {xs : Nat → Int32} {L i : Nat} (hR : Rel s g) (hX : GL L xs g) (hi : i + 7 ≤ L) (hL : L ≤ 448) : LwR i g (jL_law_3170_23 (e_g s g) 7 8 139 194 (Int32.ofNat i)) := by
  have K : KI (fL_redo (e_g s g) 8 194) (fun G => fX12_redo G 139) g := K_redo hR
  obtain ⟨s2, g1, ⟨k, s1, b, c1, c2, c3, c4⟩, r, e⟩ := K
  have c2' : fX12_redo (e_g s1 g1) 139 = some (b, e_g s2 g1) := c2
  have X1 := gl_x hR hX e
  refine ⟨s2, g1, ?_, r, e⟩
  unfold jL_law_3170_23
  rw [c1, b2_n, ob139, ob_n, c2', b2_n]
  exact (lw_t c3 c4).trans rfl
theorem lw_count {s : e_S} {g : ps_G} {xs : Nat → Int32} {L i : Nat} (hR : Rel s g) (hX : GL L xs g) (hi : i + 7 ≤ L) (hL : L ≤ 448) : LwR i g (jL_law_3214_23 (e_g s g) 7 8 139 194 (Int32.ofNat i)) := by
  obtain ⟨v, c1, c2, r⟩ := K_count (x := xs (i + 1)) hR
  refine ⟨sF s 139 0 0, g, ?_, r, ext_rf⟩
  unfold jL_law_3214_23
  rw [rd1 hX hi hL, ob_n, ob8, ob_n, c1, ob_n, ob_n, ob139, ob_n, c2, b2_n, if_pos rfl]
  rfl
theorem lw_7 {L i : Nat} (hL : L ≤ 448) (hi : i ≤ 500) : Int32.ofNat L - 7 < Int32.ofNat i ↔ L < i + 7 := by
  have e7 : (7 : Int32).toInt = 7 := by decide
  have s : (Int32.ofNat L - 7).toInt = L - 7 := by
    rw [Int32.toInt_sub, n_int (by omega), e7]
    have e : ((2 : Int) ^ 31) = 2147483648 := by decide
    rw [Int.bmod_eq_of_le (by omega) (by omega)]
  rw [i_lt, s, n_int (by omega)]
  omega
theorem lw_b {s : e_S} {g : ps_G} {xs : Nat → Int32} {L i : Nat} (hR : Rel s g) (hX : GL L xs g) (hi : i + 7 ≤ L) (hL : L ≤ 448) : LwR i g (bL_law_23 7 8 139 194 (Int32.ofNat i) (e_g s g)) := by
  have c : ¬ Int32.ofNat L - 7 < Int32.ofNat i := fun y => by
    have := (lw_7 hL (by omega)).mp y
    omega
  have ln : q_len (e_g s g) 7 = some (Int32.ofNat L) := d_len (Or.inr (Or.inl (by decide))) hX
  unfold bL_law_23
  rw [ln, ob_n, if_neg c, rd0 hX (by omega) hL, ob_n]
  exact (lw_i (lw_feed hR hX hi hL) (lw_i (lw_end hR hX hi hL) (lw_i (lw_fault hR hX hi hL) (lw_i (lw_open hR hX hi hL) (lw_i (lw_layer hR hX hi hL) (lw_i (lw_drop hR hX hi hL) (lw_i (lw_move hR hX hi hL) (lw_i (lw_set hR hX hi hL) (lw_i (lw_mask hR hX hi hL) (lw_i (lw_colours hR hX hi hL) (lw_i (lw_ramp hR hX hi hL) (lw_i (lw_turn hR hX hi hL) (lw_i (lw_scale hR hX hi hL) (lw_i (lw_flat hR hX hi hL) (lw_i (lw_fill hR hX hi hL) (lw_i (lw_merge hR hX hi hL) (lw_i (lw_stroke hR hX hi hL) (lw_i (lw_filter hR hX hi hL) (lw_i (lw_path hR hX hi hL) (lw_i (lw_text hR hX hi hL) (lw_i (lw_convert hR hX hi hL) (lw_i (lw_few hR hX hi hL) (lw_i (lw_raw hR hX hi hL) (lw_i (lw_png hR hX hi hL) (lw_i (lw_select hR hX hi hL) (lw_i (lw_reselect hR hX hi hL) (lw_i (lw_selected hR hX hi hL) (lw_i (lw_front hR hX hi hL) (lw_i (lw_brush hR hX hi hL) (lw_i (lw_source hR hX hi hL) (lw_i (lw_point hR hX hi hL) (lw_i (lw_curve hR hX hi hL) (lw_i (lw_kernel hR hX hi hL) (lw_i (lw_profile hR hX hi hL) (lw_i (lw_develop hR hX hi hL) (lw_i (lw_step hR hX hi hL) (lw_i (lw_glyph hR hX hi hL) (lw_i (lw_see hR hX hi hL) (lw_i (lw_zoomed hR hX hi hL) (lw_i (lw_hash hR hX hi hL) (lw_i (lw_pixel hR hX hi hL) (lw_i (lw_masked hR hX hi hL) (lw_i (lw_about hR hX hi hL) (lw_i (lw_made hR hX hi hL) (lw_i (lw_octets hR hX hi hL) (lw_i (lw_undo hR hX hi hL) (lw_i (lw_redo hR hX hi hL) (lw_i (lw_count hR hX hi hL) ⟨s, g, rfl, hR, ext_rf⟩))))))))))))))))))))))))))))))))))))))))))))))))
theorem lw_l {xs : Nat → Int32} {L : Nat} (hL : L ≤ 448) : ∀ (m i : Nat) (s : e_S) (g : ps_G), Rel s g → GL L xs g → i ≤ 500 → L < i + 7 * m + 7 → ∃ g', q_lp (fun t => bL_law_23 7 8 139 194 t.1 t.2) (Int32.ofNat i, e_g s g) = some (.inl g') ∧ g'.1 ≤ g.1 + 100 * m ∧ g'.2.1 ≤ g.2.1 + 10000 * m := by
  have fin : ∀ (m i : Nat) (s : e_S) (g : ps_G), Rel s g → GL L xs g → i ≤ 500 → L < i + 7 → ∃ g', q_lp (fun t => bL_law_23 7 8 139 194 t.1 t.2) (Int32.ofNat i, e_g s g) = some (.inl g') ∧ g'.1 ≤ g.1 + 100 * m ∧ g'.2.1 ≤ g.2.1 + 10000 * m := fun m i s g hR hX h5 hi => by
    have ln : q_len (e_g s g) 7 = some (Int32.ofNat L) := d_len (Or.inr (Or.inl (by decide))) hX
    refine ⟨e_g s g, lp_end ?_, Nat.le_add_right _ _, Nat.le_add_right _ _⟩
    show bL_law_23 _ _ _ _ _ _ = _
    unfold bL_law_23
    dsimp only
    rw [ln, ob_n, if_pos ((lw_7 hL h5).mpr hi)]
  intro m
  induction m with
  | zero => intro i s g hR hX h5 hi; exact fin 0 i s g hR hX h5 (by omega)
  | succ m ih =>
    intro i s g hR hX h5 hi
    by_cases q : L < i + 7
    · exact fin (m + 1) i s g hR hX h5 q
    · obtain ⟨s2, g1, e, r, x⟩ := lw_b hR hX (i := i) (by omega) hL
      have e7 : Int32.ofNat i + 7 = Int32.ofNat (i + 7) := n_add (m := 7)
      rw [e7] at e
      obtain ⟨g', e2, b1, b2⟩ := ih (i + 7) s2 g1 r (gl_x hR hX x) (by omega) (by omega)
      refine ⟨g', ?_, ?_, ?_⟩
      · rw [lp_go (b := fun t => bL_law_23 7 8 139 194 t.1 t.2) (s := (Int32.ofNat i, e_g s g)) (s' := (Int32.ofNat (i + 7), e_g s2 g1)) e]
        exact e2
      · have := x.2.1
        omega
      · have := x.2.2.2.1
        omega
