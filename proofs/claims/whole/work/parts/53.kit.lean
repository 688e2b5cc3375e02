-- needs: 07 10 13 14 20 21 22 23 24 25 26 27 32 38 52
/-! ===== loops held side by side, and rows filled ===== -/
theorem lp_map {σ τ ρ : Type} {b : σ → Option (σ ⊕ ρ)} {c : τ → Option (τ ⊕ ρ)} (f : σ → τ) (P : σ → Prop) (h : ∀ s, P s → c (f s) = (b s).map (Sum.map f id)) (hP : ∀ s s', P s → b s = some (.inl s') → P s') {s : σ} (h0 : P s) : q_lp b s = q_lp c (f s) := by
  have key : ∀ n s, P s → q_lpn b n s = q_lpn c n (f s) := by
    intro n
    induction n with
    | zero => intro s _; rfl
    | succ n ih =>
      intro s hs
      show (b s).bind _ = (c (f s)).bind _
      rw [h s hs]
      cases e : b s with
      | none => rfl
      | some x =>
        cases x with
        | inl s' => exact ih s' (hP s s' hs e)
        | inr r => rfl
  cases e : q_lp b s with
  | some r =>
    obtain ⟨n, hn⟩ := q_lp_ex e
    rw [key n s h0] at hn
    exact (q_lp_of hn).symm
  | none =>
    cases e2 : q_lp c (f s) with
    | none => rfl
    | some r =>
      obtain ⟨n, hn⟩ := q_lp_ex e2
      rw [← key n s h0] at hn
      rw [q_lp_of hn] at e
      cases e
theorem lp_eqI {σ ρ : Type} {b c : σ → Option (σ ⊕ ρ)} (P : σ → Prop) (h : ∀ s, P s → b s = c s) (hP : ∀ s s', P s → b s = some (.inl s') → P s') {s : σ} (h0 : P s) : q_lp b s = q_lp c s := by
  refine lp_map id P (fun s hs => ?_) hP h0
  show c s = _
  rw [← h s hs]
  cases b s with
  | none => rfl
  | some x => cases x <;> rfl
/-- two loops that go along together -/
theorem lp_rel {σ τ ρ ρ' : Type} {b : σ → Option (σ ⊕ ρ)} {c : τ → Option (τ ⊕ ρ')} (P : Nat → σ → τ → Prop) (E : ρ → ρ' → Prop) (hs : ∀ n s t, P n s t → (∃ s' t' m, b s = some (.inl s') ∧ c t = some (.inl t') ∧ m < n ∧ P m s' t') ∨ (∃ r r', b s = some (.inr r) ∧ c t = some (.inr r') ∧ E r r')) : ∀ n s t, P n s t → ∃ r r', q_lp b s = some r ∧ q_lp c t = some r' ∧ E r r' := by
  intro n
  induction n using Nat.strongRecOn with
  | ind n ih =>
    intro s t h
    rcases hs n s t h with ⟨s', t', m, h1, h2, h3, h4⟩ | ⟨r, r', h1, h2, h3⟩
    · obtain ⟨r, r', h5, h6, h7⟩ := ih m h3 s' t' h4
      exact ⟨r, r', by rw [q_lp_eq, h1]; exact h5, by rw [q_lp_eq, h2]; exact h6, h7⟩
    · exact ⟨r, r', by rw [q_lp_eq, h1]; rfl, by rw [q_lp_eq, h2]; rfl, h3⟩
/-- n times around, and out -/
theorem lp_n {σ ρ : Type} {b : σ → Option (σ ⊕ ρ)} (P : Nat → σ → Prop) (E : ρ → Prop) (n : Nat) (hs : ∀ i s, i < n → P i s → ∃ s', b s = some (.inl s') ∧ P (i + 1) s') (he : ∀ s, P n s → ∃ r, b s = some (.inr r) ∧ E r) {s : σ} (h0 : P 0 s) : ∃ r, q_lp b s = some r ∧ E r := by
  refine lp_inv (fun m s => ∃ i, i + m = n ∧ P i s) E (fun m s hm => ?_) n s ⟨0, by omega, h0⟩
  obtain ⟨i, hi, hp⟩ := hm
  by_cases h : i < n
  · obtain ⟨s', h1, h2⟩ := hs i s h hp
    exact Or.inl ⟨s', m - 1, h1, by omega, i + 1, by omega, h2⟩
  · have e : i = n := by omega
    rw [e] at hp
    obtain ⟨r, h1, h2⟩ := he s hp
    exact Or.inr ⟨r, h1, h2⟩
/-- a picture's rows filled, one behind another; what else is changed there is held by t -/
theorem fill2 {σ τ : Type} (S : τ → (Nat → Int32) → σ) (b w h : Nat) (φ f0 : Nat → Int32) {bI : Int32 → Int32 × σ → Option ((Int32 × σ) ⊕ σ)} {bO : Int32 × σ → Option ((Int32 × σ) ⊕ σ)} (hI : ∀ t f y x, y < h → x < w → f = cpT f0 φ b (y * w + x) → ∃ t', bI (Int32.ofNat y) (Int32.ofNat x, S t f) = some (.inl (Int32.ofNat (x + 1), S t' (upd f (b + (y * w + x)) (φ (y * w + x)))))) (hIe : ∀ t f y, y < h → bI (Int32.ofNat y) (Int32.ofNat w, S t f) = some (.inr (S t f))) (hO : ∀ t f y, y < h → bO (Int32.ofNat y, S t f) = (q_lp (bI (Int32.ofNat y)) ((0 : Int32), S t f)).bind fun s' => some (.inl (Int32.ofNat y + 1, s'))) (hOe : ∀ t f, bO (Int32.ofNat h, S t f) = some (.inr (S t f))) (t : τ) : ∃ t', q_lp bO ((0 : Int32), S t f0) = some (S t' (cpT f0 φ b (h * w))) := by
  have key := lp_n (b := bO) (fun y s => ∃ t, s = (Int32.ofNat y, S t (cpT f0 φ b (y * w)))) (fun r => ∃ t, r = S t (cpT f0 φ b (h * w))) h (fun y s hy hp => ?_) (fun s hp => ?_) (s := ((0 : Int32), S t f0)) ⟨t, by rw [Nat.zero_mul, cpT_0]; rfl⟩
  · obtain ⟨r, h1, t', h2⟩ := key
    exact ⟨t', by rw [h1, h2]⟩
  · obtain ⟨t, rfl⟩ := hp
    have inn := lp_n (b := bI (Int32.ofNat y)) (fun x s => ∃ t, s = (Int32.ofNat x, S t (cpT f0 φ b (y * w + x)))) (fun r => ∃ t, r = S t (cpT f0 φ b (y * w + w))) w (fun x s hx hp => ?_) (fun s hp => ?_) (s := ((0 : Int32), S t (cpT f0 φ b (y * w)))) ⟨t, rfl⟩
    · obtain ⟨r, h1, t', h2⟩ := inn
      rw [hO t _ y hy, h1, h2]
      exact ⟨_, rfl, t', by rw [n_suc, Nat.succ_mul]⟩
    · obtain ⟨t, rfl⟩ := hp
      obtain ⟨t', h1⟩ := hI t (cpT f0 φ b (y * w + x)) y x hy hx rfl
      refine ⟨_, h1, t', ?_⟩
      rw [cpT_up, Nat.add_assoc]
    · obtain ⟨t, rfl⟩ := hp
      exact ⟨_, hIe t _ y hy, t, rfl⟩
  · obtain ⟨t, rfl⟩ := hp
    exact ⟨_, hOe t _, t, rfl⟩
theorem fill1 {σ : Type} (S : (Nat → Int32) → σ) (b w h : Nat) (φ f0 : Nat → Int32) {bI : Int32 → Int32 × σ → Option ((Int32 × σ) ⊕ σ)} {bO : Int32 × σ → Option ((Int32 × σ) ⊕ σ)} (hI : ∀ f y x, y < h → x < w → f = cpT f0 φ b (y * w + x) → bI (Int32.ofNat y) (Int32.ofNat x, S f) = some (.inl (Int32.ofNat (x + 1), S (upd f (b + (y * w + x)) (φ (y * w + x)))))) (hIe : ∀ f y, y < h → bI (Int32.ofNat y) (Int32.ofNat w, S f) = some (.inr (S f))) (hO : ∀ f y, y < h → bO (Int32.ofNat y, S f) = (q_lp (bI (Int32.ofNat y)) ((0 : Int32), S f)).bind fun s' => some (.inl (Int32.ofNat y + 1, s'))) (hOe : ∀ f, bO (Int32.ofNat h, S f) = some (.inr (S f))) : q_lp bO ((0 : Int32), S f0) = some (S (cpT f0 φ b (h * w))) := by
  obtain ⟨t', ht⟩ := fill2 (τ := Unit) (fun _ f => S f) b w h φ f0 (bI := bI) (bO := bO) (fun _ f y x hy hx hf => ⟨(), hI f y x hy hx hf⟩) (fun _ f y hy => hIe f y hy) (fun _ f y hy => hO f y hy) (fun _ f => hOe f) ()
  exact ht
/-- one row filled -/
theorem fillN {σ : Type} (S : (Nat → Int32) → σ) (b n : Nat) (φ f0 : Nat → Int32) {bO : Int32 × σ → Option ((Int32 × σ) ⊕ σ)} (hI : ∀ f i, i < n → f (b + i) = f0 (b + i) → bO (Int32.ofNat i, S f) = some (.inl (Int32.ofNat (i + 1), S (upd f (b + i) (φ i))))) (hOe : ∀ f, bO (Int32.ofNat n, S f) = some (.inr (S f))) : q_lp bO ((0 : Int32), S f0) = some (S (cpT f0 φ b n)) := by
  refine lp_0 (fun i => (Int32.ofNat i, S (cpT f0 φ b i))) n (by rw [cpT_0]; rfl) (fun i hi => ?_) (hOe _)
  rw [hI _ i hi (cpT_out (by omega)), cpT_up]
theorem cpT_ge {A N : Nat → Int32} {b n k : Nat} (h1 : b ≤ k) (h2 : k < b + n) : cpT A N b n k = N (k - b) := if_pos ⟨h1, h2⟩
theorem cpT_cong {A N N' : Nat → Int32} {b n : Nat} (h : ∀ k, k < n → N k = N' k) : cpT A N b n = cpT A N' b n := by
  funext k
  by_cases q : b ≤ k ∧ k < b + n
  · rw [cpT_ge q.1 q.2, cpT_ge q.1 q.2, h _ (by omega)]
  · rw [cpT_out q, cpT_out q]
/-! ===== bytes of a COLOUR ===== -/
theorem bv_nn {x : Int32} (h : x.toBitVec.toNat < 2147483648) : x.toInt = x.toBitVec.toNat := by
  show x.toBitVec.toInt = _
  rw [BitVec.toInt_eq_toNat_of_lt (by omega)]
theorem and_r {x m : Int32} {k : Nat} (hm : m.toBitVec.toNat = k) (hk : k < 2147483648) : 0 ≤ (x &&& m).toInt ∧ (x &&& m).toInt ≤ k := by
  have h : (x &&& m).toBitVec.toNat ≤ k := by
    rw [Int32.toBitVec_and, BitVec.toNat_and, ← hm]
    exact Nat.and_le_right
  rw [bv_nn (by omega)]
  omega
theorem and_255 {x : Int32} : 0 ≤ (x &&& 255).toInt ∧ (x &&& 255).toInt ≤ 255 := and_r (m := 255) (k := 255) (by decide) (by decide)
theorem and_15 {x : Int32} : 0 ≤ (x &&& 15).toInt ∧ (x &&& 15).toInt ≤ 15 := and_r (m := 15) (k := 15) (by decide) (by decide)
theorem ush_24 {x : Int32} : 0 ≤ (q_ush x 24).toInt ∧ (q_ush x 24).toInt ≤ 255 := by
  have h : (q_ush x 24).toBitVec.toNat ≤ 255 := by
    show (x.toUInt32 >>> (Int32.toUInt32 24 &&& Int32.toUInt32 31)).toNat ≤ 255
    rw [UInt32.toNat_shiftRight]
    have e : (Int32.toUInt32 24 &&& Int32.toUInt32 31).toNat % 32 = 24 := by decide
    rw [e, Nat.shiftRight_eq_div_pow]
    have := x.toUInt32.toNat_lt
    omega
  rw [bv_nn (by omega)]
  omega
theorem ob_n {α β : Type} {a : α} {f : α → Option β} : Option.bind (some a) f = f a := by rw [Option.bind_some]
theorem b2_n {α β : Type} {a : α} {g : ps_G} {k : α → ps_G → Option β} : q_b2 (some (a, g)) k = k a g := by rw [b2_s]
theorem tc_rn {α β : Type} {a : α} {g : ps_G} {k : α → ps_G → Option ((String ⊕ β) × ps_G)} : q_tc (some (.inr a, g)) k = k a g := by rw [tc_r]
theorem tc_ln {α β : Type} {E : String} {g : ps_G} {k : α → ps_G → Option ((String ⊕ β) × ps_G)} : q_tc (some ((.inl E : String ⊕ α), g)) k = some (.inl E, g) := by rw [tc_l]
theorem obb139 {s : e_S} {g : ps_G} {β : Type} {f : Unit → Option β} : Option.bind (q_ob 12 (e_g s g) 139) f = f () := by rw [ob139]; rfl
theorem obb8 {s : e_S} {g : ps_G} {β : Type} {f : Unit → Option β} : Option.bind (q_ob 11 (e_g s g) 8) f = f () := by rw [ob8]; rfl
theorem z_160 : (16 : Int32) - 8 * 0 = 16 := by decide
theorem z_161 : (16 : Int32) - 8 * 1 = 8 := by decide
theorem z_162 : (16 : Int32) - 8 * 2 = 0 := by decide
theorem z_163 : (16 : Int32) - 8 * 3 = -8 := by decide
theorem z_168 : (16 : Int32) + -8 = 8 := by decide
theorem z_88 : (8 : Int32) + -8 = 0 := by decide
theorem z_08 : (0 : Int32) + -8 = -8 := by decide
theorem z_01 : (0 : Int32) + 1 = 1 := by decide
theorem z_11 : (1 : Int32) + 1 = 2 := by decide
theorem z_21 : (2 : Int32) + 1 = 3 := by decide
theorem z_31 : (3 : Int32) + 1 = 4 := by decide
theorem shl_0 {x : Int32} : q_shl x 0 = x := by
  unfold q_shl
  rw [show (0 : Int32) &&& 31 = 0 by decide, Int32.shiftLeft_zero]
theorem shr_0 {x : Int32} : q_shr x 0 = x := by
  unfold q_shr
  rw [show (0 : Int32) &&& 31 = 0 by decide, Int32.shiftRight_zero]
theorem shr_k {a y : Int32} {n : Nat} (h : ((y &&& 31).toBitVec.smod 32).toNat = n) : (q_shr a y).toInt = a.toInt / 2 ^ n := by
  unfold q_shr
  show (a >>> (y &&& 31)).toBitVec.toInt = _
  rw [Int32.toBitVec_shiftRight, BitVec.toInt_sshiftRight', h, Int.shiftRight_eq_div_pow]
  rfl
theorem i_div {a b : Int32} (h : ¬ b.toInt = -1) : (a / b).toInt = a.toInt.tdiv b.toInt := by
  rw [Int32.toInt_div_of_ne_right]
  intro e
  rw [e] at h
  exact h rfl
theorem i_divp {a b : Int32} (ha : 0 ≤ a.toInt) (hb : 0 < b.toInt) : (a / b).toInt = a.toInt / b.toInt := by
  rw [i_div (by omega), Int.tdiv_eq_ediv_of_nonneg ha]
/-! ===== COLOURS mixed and laid over ===== -/
theorem mul_r {a b : Int32} (ha : rg a 0 255) (hb : rg b 0 255) : rg (fX11_mul a b) 0 255 := by
  have e0 : (0 : Int32).toInt = 0 := rfl
  have e5 : (255 : Int32).toInt = 255 := rfl
  have e7 : (127 : Int32).toInt = 127 := rfl
  rw [rg_i, e0, e5] at ha hb ⊢
  have h1 : 0 ≤ a.toInt * b.toInt := Int.mul_nonneg ha.1 hb.1
  have h2 : a.toInt * b.toInt ≤ 255 * 255 := Int.mul_le_mul ha.2 hb.2 hb.1 (by decide)
  have m : (a * b).toInt = a.toInt * b.toInt := i_mul (by omega) (by omega)
  have p : (a * b + 127).toInt = a.toInt * b.toInt + 127 := by rw [i_add (by rw [m, e7]; omega) (by rw [m, e7]; omega), m, e7]
  unfold fX11_mul
  rw [i_divp (by rw [p]; omega) (by rw [e5]; omega), p, e5]
  omega
theorem al_r {c : Int32} : rg (q_ush c 24) 0 255 := rg_i.mpr ush_24
theorem by_r {c : Int32} : rg (c &&& 255) 0 255 := rg_i.mpr and_255
theorem den_r {e a : Int32} (he : rg e 0 255) (ha : rg a 0 255) : 0 ≤ (255 * e + (255 - e) * a).toInt ∧ (255 * e + (255 - e) * a).toInt ≤ 65025 := by
  have e0 : (0 : Int32).toInt = 0 := rfl
  have e5 : (255 : Int32).toInt = 255 := rfl
  rw [rg_i, e0, e5] at ha he
  have s1 : (255 - e).toInt = 255 - e.toInt := by rw [i_sub (by rw [e5]; omega) (by rw [e5]; omega), e5]
  have h1 : 0 ≤ (255 - e.toInt) * a.toInt := Int.mul_nonneg (by omega) ha.1
  have h2 : (255 - e.toInt) * a.toInt ≤ (255 - e.toInt) * 255 := Int.mul_le_mul_of_nonneg_left ha.2 (by omega)
  have m1 : ((255 - e) * a).toInt = (255 - e.toInt) * a.toInt := by rw [i_mul (by rw [s1]; omega) (by rw [s1]; omega), s1]
  have m2 : (255 * e).toInt = 255 * e.toInt := by rw [i_mul (by rw [e5]; omega) (by rw [e5]; omega), e5]
  rw [i_add (by rw [m1, m2]; omega) (by rw [m1, m2]; omega), m1, m2]
  omega
theorem r_as {a b c : Int32} : a + b - c = a + (b - c) := by rw [Int32.sub_eq_add_neg, Int32.sub_eq_add_neg, Int32.add_assoc]
theorem r_ss {a b c : Int32} : a + b - c = a - (c - b) := by rw [r_as, Int32.sub_eq_add_neg a, Int32.neg_sub]
theorem mul12 {a b : Int32} : fX12_mul a b = fX11_mul a b := rfl
theorem mix12 {a b c : Int32} : fX12_mix a b c = fX11_mix a b c := rfl
theorem clip12 {a : Int32} : fX12_clip a = fX11_clip a := rfl
theorem abs12 {a : Int32} : fX12_abs a = fJ9_abs_0f7a4 a := by
  unfold fX12_abs fJ9_abs_0f7a4
  rfl
theorem least12 {a b : Int32} : fX12_least a b = fJ9_min_7cf53 a b := by
  unfold fX12_least fJ9_min_7cf53
  by_cases q : b ≤ a
  · by_cases q2 : b < a
    · rw [if_pos q, if_pos q2]
    · rw [if_pos q, if_neg q2, i_eq]
      rw [i_le] at q
      rw [i_lt] at q2
      omega
  · rw [if_neg q, if_neg]
    rw [i_le] at q
    rw [i_lt]
    omega
theorem m_16 {m : Int32} (hm : rg m 0 15) : m = 0 ∨ m = 1 ∨ m = 2 ∨ m = 3 ∨ m = 4 ∨ m = 5 ∨ m = 6 ∨ m = 7 ∨ m = 8 ∨ m = 9 ∨ m = 10 ∨ m = 11 ∨ m = 12 ∨ m = 13 ∨ m = 14 ∨ m = 15 := by
  rw [rg_i] at hm
  have h0 : 0 ≤ m.toInt := hm.1
  have h1 : m.toInt ≤ 15 := hm.2
  obtain ⟨n, rfl, hn⟩ : ∃ n : Nat, m = Int32.ofNat n ∧ n < 16 := ⟨m.toInt.toNat, n_of (by omega), by omega⟩
  have : n = 0 ∨ n = 1 ∨ n = 2 ∨ n = 3 ∨ n = 4 ∨ n = 5 ∨ n = 6 ∨ n = 7 ∨ n = 8 ∨ n = 9 ∨ n = 10 ∨ n = 11 ∨ n = 12 ∨ n = 13 ∨ n = 14 ∨ n = 15 := by omega
  rcases this with rfl | rfl | rfl | rfl | rfl | rfl | rfl | rfl | rfl | rfl | rfl | rfl | rfl | rfl | rfl | rfl <;> decide
theorem lt_255 {v : Int32} (h : rg v 0 255) : v < 255 ↔ ¬ v = 255 := by
  have e5 : (255 : Int32).toInt = 255 := rfl
  rw [rg_i, e5] at h
  rw [i_lt, i_eq, e5]; omega
theorem gt_0 {v : Int32} (h : rg v 0 255) : 0 < v ↔ ¬ v = 0 := by
  have e0 : (0 : Int32).toInt = 0 := rfl
  rw [rg_i, e0] at h
  rw [i_lt, i_eq, e0]; omega
theorem if_le {α : Type} {a b : Int32} {x y : α} : (if a ≤ b then x else y) = if b < a then y else x := by
  by_cases h : a ≤ b
  · rw [if_pos h, if_neg]
    rw [i_le] at h; rw [i_lt]; omega
  · rw [if_neg h, if_pos]
    rw [i_le] at h; rw [i_lt]; omega
theorem min_2 {x y : Int32} : (if y ≤ x then y else x) = fJ9_min_7cf53 x y := least12
theorem max_2 {x y : Int32} : (if x ≤ y then y else x) = fJ9_max_7cf53 x y := by
  unfold fJ9_max_7cf53
  by_cases q : x ≤ y
  · by_cases q2 : x < y
    · rw [if_pos q, if_pos q2]
    · rw [if_pos q, if_neg q2, i_eq]
      rw [i_le] at q
      rw [i_lt] at q2
      omega
  · rw [if_neg q, if_neg]
    rw [i_le] at q
    rw [i_lt]
    omega
theorem max_0 {x : Int32} : (if 0 ≤ x then x else 0) = fJ9_max_7cf53 0 x := max_2
theorem blended_eq {g g' : ps_G} {x y yb ys m : Int32} (hm : rg m 0 15) (hx : rg x 0 255) (hy : rg y 0 255) : fX12_blend g m x y yb ys = fX11_blended g' x y (ys - yb) m := by
  have l1 := lt_255 hy
  have l0 := gt_0 hy
  unfold fX12_blend fX11_blended
  rcases m_16 hm with rfl | rfl | rfl | rfl | rfl | rfl | rfl | rfl | rfl | rfl | rfl | rfl | rfl | rfl | rfl | rfl
  · simp (decide := true) only [reduceIte]
  · simp (decide := true) only [reduceIte, mul12]
  · simp (decide := true) only [reduceIte, mul12]
  · simp (decide := true) only [reduceIte, mul12, fX12_hard, r_as]
  · simp (decide := true) only [reduceIte, min_2]
  · simp (decide := true) only [reduceIte, max_2]
  · simp (decide := true) only [reduceIte, l1, least12, jX12_blend_160, jX11_blended_181]
  · simp (decide := true) only [reduceIte, l0, least12, jX12_blend_203, jX11_blended_224]
  · simp (decide := true) only [reduceIte, mul12, fX12_hard, r_as]
  · simp (decide := true) only [reduceIte, abs12]
  · simp (decide := true) only [reduceIte, mul12]
  · simp (decide := true) only [reduceIte, least12]
  · simp (decide := true) only [reduceIte, max_0]
  · simp (decide := true) only [reduceIte, mul12, clip12]
  · simp (decide := true) only [reduceIte, clip12, r_as]
  · simp (decide := true) only [reduceIte, clip12, r_ss]
theorem blended_t {g : ps_G} {x y l m : Int32} (hm : rg m 0 15) (hy : rg y 0 255) : ∃ v, fX11_blended g x y l m = some v := by
  have l1 := lt_255 hy
  have l0 := gt_0 hy
  unfold fX11_blended
  rcases m_16 hm with rfl | rfl | rfl | rfl | rfl | rfl | rfl | rfl | rfl | rfl | rfl | rfl | rfl | rfl | rfl | rfl
  all_goals simp (decide := true) only [reduceIte]
  case inr.inr.inr.inr.inr.inr.inl =>
    by_cases h1 : x = 0
    · simp (decide := true) only [h1, reduceIte, jX11_blended_181]; exact ⟨_, rfl⟩
    · by_cases h2 : y = 255
      · simp (decide := true) only [h1, h2, l1, reduceIte, jX11_blended_181]; exact ⟨_, rfl⟩
      · have h3 : ¬ (255 : Int32) - y = 0 := by
          intro q
          apply h2
          have := Int32.sub_eq_iff_eq_add.mp q
          rw [Int32.zero_add] at this
          exact this.symm
        simp (decide := true) only [h1, h2, l1, reduceIte, jX11_blended_181, q_div, h3, ob_s]; exact ⟨_, rfl⟩
  case inr.inr.inr.inr.inr.inr.inr.inl =>
    by_cases h1 : x = 255
    · simp (decide := true) only [h1, reduceIte, jX11_blended_224]; exact ⟨_, rfl⟩
    · by_cases h2 : y = 0
      · simp (decide := true) only [h1, h2, l0, reduceIte, jX11_blended_224]; exact ⟨_, rfl⟩
      · simp (decide := true) only [h1, h2, l0, reduceIte, jX11_blended_224, q_div, ob_s]; exact ⟨_, rfl⟩
  all_goals exact ⟨_, rfl⟩
theorem over_eq {g g' : ps_G} {m b s e : Int32} (hm : rg m 0 15) (he : rg e 0 255) : fX12_over g m b s e = fX11_blend g' b s e m := by
  have hd := den_r (a := q_ush b 24) he al_r
  unfold fX12_over fX11_blend
  have ea : fX12_alpha b = q_ush b 24 := rfl
  rw [ea]
  have hb : ∀ c, fX12_bright c = fX11_luma c := by
    intro c
    unfold fX12_bright fX11_luma fX12_part
    simp (decide := true) only [reduceIte, shr_0, z_160, z_161, z_162, z_163, z_168, z_88, z_08, z_01, z_11, z_21, z_31]
  rw [hb, hb]
  generalize hD : 255 * e + (255 - e) * q_ush b 24 = D at hd
  have e0 : (0 : Int32).toInt = 0 := rfl
  have c0 : 0 < D ↔ ¬ D = 0 := by rw [i_lt, i_eq, e0]; omega
  by_cases h0 : D = 0
  · simp (decide := true) only [h0, reduceIte]
  · have hlp := lp_map (b := fun s1 => bX12_over_58 g m b s e (q_ush b 24) D (fX11_luma b) (fX11_luma s) s1.1 s1.2) (c := fun s1 => bX11_blend_58 g' b s e m (q_ush b 24) D (fX11_luma s - fX11_luma b) s1.1 s1.2) (fun t : Int32 × Int32 => (t.1, 16 - 8 * t.2)) (fun t => t.2 = 0 ∨ t.2 = 1 ∨ t.2 = 2 ∨ t.2 = 3) ?_ ?_ (s := (q_shl ((D + 127) / 255) 24, 0)) (Or.inl rfl)
    · simp (decide := true) only [h0, c0, reduceIte]
      rw [hlp]
      dsimp only
      rw [z_160]
    · rintro ⟨acc, k⟩ hk
      dsimp only at hk ⊢
      have bl := fun x y hx hy => blended_eq (g := g) (g' := g') (x := x) (y := y) (yb := fX11_luma b) (ys := fX11_luma s) hm hx hy
      rcases hk with rfl | rfl | rfl | rfl
      · simp (decide := true) only [bX12_over_58, bX11_blend_58, fX12_part, reduceIte, bl _ _ by_r by_r, mix12, z_160, z_161, z_162, z_163, z_168, z_88, z_08, z_01, z_11, z_21, z_31]
        cases fX11_blended g' (q_shr b 16 &&& 255) (q_shr s 16 &&& 255) (fX11_luma s - fX11_luma b) m with
        | none => rfl
        | some v => simp (decide := true) only [ob_s, q_div, h0, reduceIte, Option.map_some, Sum.map_inl, z_160, z_161, z_162, z_163, z_168, z_88, z_08, z_01, z_11, z_21, z_31]
      · simp (decide := true) only [bX12_over_58, bX11_blend_58, fX12_part, reduceIte, bl _ _ by_r by_r, mix12, z_160, z_161, z_162, z_163, z_168, z_88, z_08, z_01, z_11, z_21, z_31]
        cases fX11_blended g' (q_shr b 8 &&& 255) (q_shr s 8 &&& 255) (fX11_luma s - fX11_luma b) m with
        | none => rfl
        | some v => simp (decide := true) only [ob_s, q_div, h0, reduceIte, Option.map_some, Sum.map_inl, z_160, z_161, z_162, z_163, z_168, z_88, z_08, z_01, z_11, z_21, z_31]
      · simp (decide := true) only [bX12_over_58, bX11_blend_58, fX12_part, reduceIte, bl _ _ by_r by_r, mix12, z_160, z_161, z_162, z_163, z_168, z_88, z_08, z_01, z_11, z_21, z_31]
        cases fX11_blended g' (q_shr b 0 &&& 255) (q_shr s 0 &&& 255) (fX11_luma s - fX11_luma b) m with
        | none => rfl
        | some v => simp (decide := true) only [ob_s, q_div, h0, reduceIte, Option.map_some, Sum.map_inl, z_160, z_161, z_162, z_163, z_168, z_88, z_08, z_01, z_11, z_21, z_31]
      · simp (decide := true) only [bX12_over_58, bX11_blend_58, reduceIte]
        rfl
    · rintro ⟨acc, k⟩ t' hk hb2
      dsimp only at hk hb2
      unfold bX12_over_58 at hb2
      by_cases h3 : (3 : Int32) ≤ k
      · rw [if_pos h3] at hb2; cases hb2
      · rw [if_neg h3] at hb2
        obtain ⟨v, -, hb2⟩ := q_be hb2
        obtain ⟨u, -, hb2⟩ := q_be hb2
        cases hb2
        rcases hk with rfl | rfl | rfl | rfl
        · exact Or.inr (Or.inl rfl)
        · exact Or.inr (Or.inr (Or.inl rfl))
        · exact Or.inr (Or.inr (Or.inr rfl))
        · exact absurd (by decide) h3
theorem blend_t {g : ps_G} {m b s e : Int32} (hm : rg m 0 15) (he : rg e 0 255) : ∃ v, fX11_blend g b s e m = some v := by
  have hd := den_r (a := q_ush b 24) he al_r
  unfold fX11_blend
  generalize hD : 255 * e + (255 - e) * q_ush b 24 = D at hd
  have e0 : (0 : Int32).toInt = 0 := rfl
  have c0 : 0 < D ↔ ¬ D = 0 := by rw [i_lt, i_eq, e0]; omega
  by_cases h0 : D = 0
  · simp (decide := true) only [h0, reduceIte]; exact ⟨_, rfl⟩
  · have lp := lp_n (b := fun s1 : Int32 × Int32 => bX11_blend_58 g b s e m (q_ush b 24) D (fX11_luma s - fX11_luma b) s1.1 s1.2) (fun i t => t.2 = if i = 0 then 16 else if i = 1 then 8 else if i = 2 then 0 else -8) (fun _ => True) 3 (fun i t hi hp => ?_) (fun t hp => ?_) (s := (q_shl ((D + 127) / 255) 24, 16)) rfl
    · obtain ⟨r, hr, -⟩ := lp
      simp (decide := true) only [h0, c0, reduceIte, hr, ob_s]; exact ⟨_, rfl⟩
    · obtain ⟨acc, k⟩ := t
      dsimp only at hp ⊢
      have hk : ¬ k < 0 := by
        rw [hp]
        have : i = 0 ∨ i = 1 ∨ i = 2 := by omega
        rcases this with rfl | rfl | rfl <;> decide
      obtain ⟨v, hv⟩ := blended_t (g := g) (x := q_shr b k &&& 255) (y := q_shr s k &&& 255) (l := fX11_luma s - fX11_luma b) hm by_r
      refine ⟨_, by simp (decide := true) only [bX11_blend_58, hk, reduceIte, hv, ob_s, q_div, h0]; rfl, ?_⟩
      dsimp only
      rw [hp]
      have : i = 0 ∨ i = 1 ∨ i = 2 := by omega
      rcases this with rfl | rfl | rfl <;> decide
    · obtain ⟨acc, k⟩ := t
      dsimp only at hp ⊢
      have hk : k < 0 := by rw [hp]; decide
      exact ⟨acc, by simp (decide := true) only [bX11_blend_58, hk, reduceIte], trivial⟩
/-- COLOUR s, there by e, over b by mode m -/
noncomputable def blV (b s e m : Int32) : Int32 := (fX11_blend cmG b s e m).getD 0
theorem blend11 {g : ps_G} {m b s e : Int32} (hm : rg m 0 15) (he : rg e 0 255) : fX11_blend g b s e m = some (blV b s e m) := by
  obtain ⟨v, hv⟩ := blend_t (g := cmG) (b := b) (s := s) hm he
  rw [← over_eq (g := cmG) (g' := g) hm he, over_eq (g := cmG) (g' := cmG) hm he]
  unfold blV
  rw [hv]; rfl
theorem over12 {g : ps_G} {m b s e : Int32} (hm : rg m 0 15) (he : rg e 0 255) : fX12_over g m b s e = some (blV b s e m) := by
  rw [over_eq (g' := g) hm he, blend11 hm he]
theorem mixed12 {g : ps_G} {b s u : Int32} : fX12_mixed g b s u = some (fX11_mixColours b s u) := by
  unfold fX12_mixed
  have hl : q_lp (fun t => bX12_mixed_5 g b s u t.1 t.2) ((0 : Int32), (0 : Int32)) = some (fX11_mixColours b s u) := by
    rw [lp_go (s' := (0 ||| q_shl (fX12_mix (fX12_part b 0) (fX12_part s 0) u) 16, (1 : Int32))) (by simp (decide := true) only [bX12_mixed_5, reduceIte, z_160, z_161, z_162, z_163, z_168, z_88, z_08, z_01, z_11, z_21, z_31])]
    rw [lp_go (s' := (0 ||| q_shl (fX12_mix (fX12_part b 0) (fX12_part s 0) u) 16 ||| q_shl (fX12_mix (fX12_part b 1) (fX12_part s 1) u) 8, (2 : Int32))) (by simp (decide := true) only [bX12_mixed_5, reduceIte, z_160, z_161, z_162, z_163, z_168, z_88, z_08, z_01, z_11, z_21, z_31])]
    rw [lp_go (s' := (0 ||| q_shl (fX12_mix (fX12_part b 0) (fX12_part s 0) u) 16 ||| q_shl (fX12_mix (fX12_part b 1) (fX12_part s 1) u) 8 ||| q_shl (fX12_mix (fX12_part b 2) (fX12_part s 2) u) 0, (3 : Int32))) (by simp (decide := true) only [bX12_mixed_5, reduceIte, z_160, z_161, z_162, z_163, z_168, z_88, z_08, z_01, z_11, z_21, z_31])]
    rw [lp_go (s' := (0 ||| q_shl (fX12_mix (fX12_part b 0) (fX12_part s 0) u) 16 ||| q_shl (fX12_mix (fX12_part b 1) (fX12_part s 1) u) 8 ||| q_shl (fX12_mix (fX12_part b 2) (fX12_part s 2) u) 0 ||| q_shl (fX12_mix (fX12_part b 3) (fX12_part s 3) u) 24, (4 : Int32))) (by simp (decide := true) only [bX12_mixed_5, reduceIte, z_160, z_161, z_162, z_163, z_168, z_88, z_08, z_01, z_11, z_21, z_31])]
    rw [lp_end (r := 0 ||| q_shl (fX12_mix (fX12_part b 0) (fX12_part s 0) u) 16 ||| q_shl (fX12_mix (fX12_part b 1) (fX12_part s 1) u) 8 ||| q_shl (fX12_mix (fX12_part b 2) (fX12_part s 2) u) 0 ||| q_shl (fX12_mix (fX12_part b 3) (fX12_part s 3) u) 24) (by simp (decide := true) only [bX12_mixed_5, reduceIte])]
    refine congrArg some ?_
    unfold fX11_mixColours fX11_pack fX11_red fX11_green fX11_blue fX12_part
    simp (decide := true) only [reduceIte, mix12, shr_0, shl_0, Int32.zero_or, z_160, z_161, z_162, z_163, z_168, z_88, z_08, z_01, z_11, z_21, z_31]
    rw [Int32.or_comm, ← Int32.or_assoc, ← Int32.or_assoc]
  rw [hl, ob_s]
theorem mix_r {a b t : Int32} (ha : rg a 0 255) (hb : rg b 0 255) (ht : rg t 0 255) : rg (fX11_mix a b t) 0 255 := by
  have e0 : (0 : Int32).toInt = 0 := rfl
  have e5 : (255 : Int32).toInt = 255 := rfl
  have e7 : (127 : Int32).toInt = 127 := rfl
  rw [rg_i, e0, e5] at ha hb ht ⊢
  have s1 : (255 - t).toInt = 255 - t.toInt := by rw [i_sub (by rw [e5]; omega) (by rw [e5]; omega), e5]
  have h1 : 0 ≤ a.toInt * (255 - t.toInt) := Int.mul_nonneg ha.1 (by omega)
  have h2 : a.toInt * (255 - t.toInt) ≤ 255 * (255 - t.toInt) := Int.mul_le_mul_of_nonneg_right ha.2 (by omega)
  have h3 : 0 ≤ b.toInt * t.toInt := Int.mul_nonneg hb.1 ht.1
  have h4 : b.toInt * t.toInt ≤ 255 * t.toInt := Int.mul_le_mul_of_nonneg_right hb.2 ht.1
  have m1 : (a * (255 - t)).toInt = a.toInt * (255 - t.toInt) := by rw [i_mul (by rw [s1]; omega) (by rw [s1]; omega), s1]
  have m2 : (b * t).toInt = b.toInt * t.toInt := i_mul (by omega) (by omega)
  have p1 : (a * (255 - t) + b * t).toInt = a.toInt * (255 - t.toInt) + b.toInt * t.toInt := by rw [i_add (by rw [m1, m2]; omega) (by rw [m1, m2]; omega), m1, m2]
  have p2 : (a * (255 - t) + b * t + 127).toInt = a.toInt * (255 - t.toInt) + b.toInt * t.toInt + 127 := by rw [i_add (by rw [p1, e7]; omega) (by rw [p1, e7]; omega), p1, e7]
  unfold fX11_mix
  rw [i_divp (by rw [p2]; omega) (by rw [e5]; omega), p2, e5]
  omega
