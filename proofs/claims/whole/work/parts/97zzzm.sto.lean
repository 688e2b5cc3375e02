-- needs: 97zzzl
/-! ===== png: a block of bytes, a block by fixed codes ===== -/
theorem and_m8 {x : Nat} (hx : x < 2147483640) : Int32.ofNat x &&& (-8) = Int32.ofNat (x / 8 * 8) := by
  apply Int32.toBitVec_inj.mp
  have e : ((-8 : Int32)).toBitVec = BitVec.allOnes 32 <<< 3 := by decide
  rw [Int32.toBitVec_and, e, ← BitVec.shiftLeft_ushiftRight]
  apply BitVec.eq_of_toNat_eq
  have e1 : (Int32.ofNat x).toBitVec = BitVec.ofNat 32 x := rfl
  have e2 : (Int32.ofNat (x / 8 * 8)).toBitVec = BitVec.ofNat 32 (x / 8 * 8) := rfl
  rw [e1, e2, BitVec.toNat_shiftLeft, BitVec.toNat_ushiftRight, BitVec.toNat_ofNat, BitVec.toNat_ofNat, Nat.shiftLeft_eq, Nat.shiftRight_eq_div_pow]
  omega
def al8 (b : Nat) : Nat := (b + 7) / 8 * 8
theorem al8_i {b n : Nat} (h : b ≤ 8 * n) : b ≤ al8 b ∧ al8 b ≤ 8 * n := by
  unfold al8
  omega
theorem toByte7 {s : e_S} {g : ps_G} {K : Nat → Int32} {n b : Nat} (h : PC s K n b) : fX2_toByte (e_g s g) 128 = some (e_g (sF s 128 2 (Int32.ofNat (al8 b))) g) := by
  have n8 := h.1
  have hb := h.2.1
  have e : (Int32.ofNat b + 7) &&& (-8) = Int32.ofNat (al8 b) := by
    have e7 : Int32.ofNat b + 7 = Int32.ofNat (b + 7) := n_add (m := 7)
    rw [e7, and_m8 (by omega)]
    rfl
  unfold fX2_toByte
  rw [f128_2, h.2.2.2.1, ob_n, e, w128_2, ob_n]
theorem rem8 {b : Nat} (hb : b < 2147483640) : q_rem (Int32.ofNat b) 8 = 0 ↔ b % 8 = 0 := by
  have e : q_rem (Int32.ofNat b) 8 = Int32.ofNat (b % 8) := n_rem (b := 8) (by omega) (by omega)
  rw [e]
  exact n_eq (b := 0) (by omega) (by omega)
theorem align12 {g : ps_G} (F : ps_G → Option (ps_G ⊕ ps_G)) (hF : ∀ G, F G = Option.bind (q_fI 12 88 G 139) fun v1 => if (q_rem v1 (8 : Int32)) = 0 then (some (.inr G)) else (Option.bind (q_fI 12 88 G 139) fun v4 => Option.bind (q_sI 12 88 G 139 (v4 + (1 : Int32))) fun g5 => some (.inl g5))) {s : e_S} : ∀ (j b : Nat), b + j = al8 b → al8 b < 100000 → s.1 139 88 = Int32.ofNat b → q_lp F (e_g s g) = some (e_g (sF s 139 88 (Int32.ofNat (al8 b))) g) := by
  intro j
  induction j generalizing s with
  | zero =>
    intro b hj hb hs
    have e : al8 b = b := hj.symm
    have m : b % 8 = 0 := by unfold al8 at e; omega
    rw [e, ← hs, sF_id]
    refine lp_end ?_
    rw [hF, f139_88, hs, ob_n, if_pos ((rem8 (by omega)).mpr m)]
  | succ j ih =>
    intro b hj hb hs
    have m : ¬ b % 8 = 0 := by unfold al8 at hj; omega
    have e : al8 (b + 1) = al8 b := by unfold al8; omega
    have st : F (e_g s g) = some (.inl (e_g (sF s 139 88 (Int32.ofNat (b + 1))) g)) := by
      rw [hF, f139_88, hs, ob_n, if_neg (fun z => m ((rem8 (by omega)).mp z)), ob_n, w139_88, ob_n, n_suc]
    have z := ih (s := sF s 139 88 (Int32.ofNat (b + 1))) (b + 1) (by omega) (by omega) (by rw [F_sF, if_pos ⟨rfl, rfl⟩])
    rw [lp_go st, z, sF_sF, e]
def sbO (K : Nat → Int32) (n d : Nat) : Nat → (Nat × Nat × (Nat → Int32)) → Option (Nat × Nat × (Nat → Int32))
  | 0, t => some t
  | m + 1, t => (rbO K n t.1 8).bind fun v => if t.2.1 < d then sbO K n d m (v.2, t.2.1 + 1, upd t.2.2 t.2.1 (Int32.ofNat v.1)) else none
theorem sb_0 {K : Nat → Int32} {n d z : Nat} {O : Nat → Int32} : ∀ m, 1 ≤ m → sbO K n d m (8 * n, z, O) = none := by
  intro m hm
  cases m with
  | zero => exact absurd hm (by decide)
  | succ m =>
    have u8 : sbO K n d (m + 1) (8 * n, z, O) = (rbO K n (8 * n) 8).bind fun v => if z < d then sbO K n d m (v.2, z + 1, upd O z (Int32.ofNat v.1)) else none := rfl
    have e8 : rbO K n (8 * n) 8 = none := by unfold rbO; rw [if_neg (by omega)]
    rw [u8, e8, ob_no]
theorem sbl7 {g : ps_G} {K : Nat → Int32} {n d many : Nat} (hmm : many < 70000) : ∀ (m k : Nat) (s : e_S) (t : Nat × Nat × (Nat → Int32)), k + m = many → GC s K n d t.1 t.2.1 t.2.2 → ∃ s', q_lp (fun x => bX2_stored_40 128 (Int32.ofNat many) x.1 x.2) (Int32.ofNat k, e_g s g) = some (e_g s' g) ∧ KC s s' ∧ (∀ t', sbO K n d m t = some t' → GC s' K n d t'.1 t'.2.1 t'.2.2 ∧ t.1 ≤ t'.1) ∧ (sbO K n d m t = none → BC s' K n) := by
  intro m
  induction m with
  | zero =>
    intro k s t hk h
    have e : k = many := hk
    subst e
    refine ⟨s, lp_end ?_, kp_rf, fun t' z => ?_, fun z => (by cases z)⟩
    · show bX2_stored_40 _ _ _ _ = _
      unfold bX2_stored_40
      rw [if_pos (nlr (by omega))]
    · have e : t = t' := Option.some.inj z
      rw [← e]
      exact ⟨h, Nat.le_refl _⟩
  | succ m ih =>
    intro k s t hk h
    have u : sbO K n d (m + 1) t = (rbO K n t.1 8).bind fun v => if t.2.1 < d then sbO K n d m (v.2, t.2.1 + 1, upd t.2.2 t.2.1 (Int32.ofNat v.1)) else none := rfl
    have R := rb7 (g := g) (m := 8) h (by omega)
    have R' : ∀ {v : Int32} {G : ps_G}, fX2_readBits (e_g s g) 128 (Int32.ofNat 8) = some (v, G) → fX2_readBits (e_g s g) 128 8 = some (v, G) := fun z => z
    have stop : ∀ S : e_S, BC S K n → q_lp (fun x => bX2_stored_40 128 (Int32.ofNat many) x.1 x.2) (Int32.ofNat (k + 1), e_g S g) = some (e_g S g) := fun S hS => by
      refine lp_end ?_
      show bX2_stored_40 _ _ _ _ = _
      unfold bX2_stored_40
      by_cases qq : Int32.ofNat many ≤ Int32.ofNat (k + 1)
      · rw [if_pos qq]
      · rw [if_neg qq, f128_3, hS.1, ob_n, if_pos (by decide)]
    cases er : rbO K n t.1 8 with
    | none =>
      obtain ⟨v, s1, r1, r2, r3⟩ := R.2 er
      have st : bX2_stored_40 128 (Int32.ofNat many) (Int32.ofNat k) (e_g s g) = some (.inl (Int32.ofNat (k + 1), e_g s1 g)) := by
        unfold bX2_stored_40 jX2_stored_71_40
        rw [if_neg (nle (by omega) (by omega)), f128_3, h.2.1, ob_n, if_neg (fun z => z rfl), ob128, ob_n, R' r1, b2_n, f128_3, r2.1, ob_n, if_pos (by decide), n_suc]
      rw [u, er, ob_no]
      refine ⟨s1, ?_, r3, fun t' z => (by cases z), fun _ => r2⟩
      rw [lp_go2 (bX2_stored_40 128 (Int32.ofNat many)) st, stop s1 r2]
    | some p =>
      obtain ⟨v, b'⟩ := p
      obtain ⟨r1, r2, r3⟩ := R.1 v b' er
      have rs := rbO_s er
      obtain ⟨s1, e1, e2, e3, e4⟩ := emit7 (g := g) (v := Int32.ofNat v) r2
      have k1 : KC s (sF s 128 2 (Int32.ofNat b')) := kcF (by decide)
      have st : bX2_stored_40 128 (Int32.ofNat many) (Int32.ofNat k) (e_g s g) = some (.inl (Int32.ofNat (k + 1), e_g s1 g)) := by
        unfold bX2_stored_40 jX2_stored_71_40
        rw [if_neg (nle (by omega) (by omega)), f128_3, h.2.1, ob_n, if_neg (fun z => z rfl), ob128, ob_n, R' r1, b2_n, f128_3, r2.2.1, ob_n, if_neg (fun z => z rfl), ob128, ob_n, e1, ob_n, n_suc]
      rw [u, er, ob_n, lp_go2 (bX2_stored_40 128 (Int32.ofNat many)) st]
      by_cases q : t.2.1 < d
      · rw [if_pos q]
        obtain ⟨s', l1, l2, l3, l4⟩ := ih (k + 1) s1 (b', t.2.1 + 1, upd t.2.2 t.2.1 (Int32.ofNat v)) (by omega) (e3 q)
        refine ⟨s', l1, kp_tr (kp_tr k1 e2) l2, fun t' z => ?_, l4⟩
        obtain ⟨y1, y2⟩ := l3 t' z
        exact ⟨y1, by have y3 : b' ≤ t'.1 := y2; omega⟩
      · rw [if_neg q]
        exact ⟨s1, stop s1 (e4 q), kp_tr k1 e2, fun t' z => (by cases z), fun _ => e4 q⟩
theorem sbl12 {g : ps_G} {K : Nat → Int32} {n d many : Nat} (hmm : many < 70000) : ∀ (m k : Nat) (s : e_S) (t : Nat × Nat × (Nat → Int32)), k + m = many → GM s K n d t.1 t.2.1 t.2.2 → ∃ s', q_lp (fun x => bX12_stored_60 139 (Int32.ofNat many) x.1 x.2) (Int32.ofNat k, e_g s g) = some (e_g s' g) ∧ KM s s' ∧ (∀ t', sbO K n d m t = some t' → GM s' K n d t'.1 t'.2.1 t'.2.2) ∧ (sbO K n d m t = none → s'.1 139 87 = 1) := by
  intro m
  induction m with
  | zero =>
    intro k s t hk h
    have e : k = many := hk
    subst e
    refine ⟨s, lp_end ?_, kp_rf, fun t' z => ?_, fun z => (by cases z)⟩
    · show bX12_stored_60 _ _ _ _ = _
      unfold bX12_stored_60
      rw [if_pos (nlr (by omega))]
    · have e : t = t' := Option.some.inj z
      rw [← e]
      exact h
  | succ m ih =>
    intro k s t hk h
    have u : sbO K n d (m + 1) t = (rbO K n t.1 8).bind fun v => if t.2.1 < d then sbO K n d m (v.2, t.2.1 + 1, upd t.2.2 t.2.1 (Int32.ofNat v.1)) else none := rfl
    have R := rb12 (g := g) (m := 8) h (by omega)
    have R' : ∀ {v : Int32} {G : ps_G}, fX12_low (e_g s g) 139 (Int32.ofNat 8) = some (v, G) → fX12_low (e_g s g) 139 8 = some (v, G) := fun z => z
    have stop : ∀ S : e_S, S.1 139 87 = 1 → q_lp (fun x => bX12_stored_60 139 (Int32.ofNat many) x.1 x.2) (Int32.ofNat (k + 1), e_g S g) = some (e_g S g) := fun S hS => by
      refine lp_end ?_
      show bX12_stored_60 _ _ _ _ = _
      unfold bX12_stored_60
      by_cases qq : Int32.ofNat many ≤ Int32.ofNat (k + 1)
      · rw [if_pos qq]
      · rw [if_neg qq, f139_87, hS, ob_n, if_pos (by decide)]
    cases er : rbO K n t.1 8 with
    | none =>
      obtain ⟨v, s1, r1, r2, r3⟩ := R.2 er
      have st : bX12_stored_60 139 (Int32.ofNat many) (Int32.ofNat k) (e_g s g) = some (.inl (Int32.ofNat (k + 1), e_g s1 g)) := by
        unfold bX12_stored_60
        rw [if_neg (nle (by omega) (by omega)), f139_87, h.2.1, ob_n, if_neg (fun z => z rfl), ob139, ob_n, R' r1, b2_n, ob139, ob_n, putRow12i r2, ob_n, n_suc]
      rw [u, er, ob_no]
      refine ⟨s1, ?_, r3, fun t' z => (by cases z), fun _ => r2⟩
      rw [lp_go2 (bX12_stored_60 139 (Int32.ofNat many)) st, stop s1 r2]
    | some p =>
      obtain ⟨v, b'⟩ := p
      obtain ⟨r1, r2, r3⟩ := R.1 v b' er
      obtain ⟨s1, e1, e2, e3, e4⟩ := putRow12 (g := g) (v := Int32.ofNat v) r2
      have k1 : KM s (sF s 139 88 (Int32.ofNat b')) := kmF (by decide)
      have st : bX12_stored_60 139 (Int32.ofNat many) (Int32.ofNat k) (e_g s g) = some (.inl (Int32.ofNat (k + 1), e_g s1 g)) := by
        unfold bX12_stored_60
        rw [if_neg (nle (by omega) (by omega)), f139_87, h.2.1, ob_n, if_neg (fun z => z rfl), ob139, ob_n, R' r1, b2_n, ob139, ob_n, e1, ob_n, n_suc]
      rw [u, er, ob_n, lp_go2 (bX12_stored_60 139 (Int32.ofNat many)) st]
      by_cases q : t.2.1 < d
      · rw [if_pos q]
        obtain ⟨s', l1, l2, l3, l4⟩ := ih (k + 1) s1 (b', t.2.1 + 1, upd t.2.2 t.2.1 (Int32.ofNat v)) (by omega) (e3 q)
        exact ⟨s', l1, kp_tr (kp_tr k1 e2) l2, l3, l4⟩
      · rw [if_neg q]
        exact ⟨s1, stop s1 (e4 q), kp_tr k1 e2, fun t' z => (by cases z), fun _ => e4 q⟩
def sdO (K : Nat → Int32) (n d : Nat) (t : Nat × Nat × (Nat → Int32)) : Option (Nat × Nat × (Nat → Int32)) := (rbO K n (al8 t.1) 16).bind fun a => (rbO K n a.2 16).bind fun c => if c.1 = a.1 ^^^ 65535 then sbO K n d a.1 (c.2, t.2.1, t.2.2) else none
theorem n_xor {x y : Nat} : Int32.ofNat x ^^^ Int32.ofNat y = Int32.ofNat (x ^^^ y) := by
  apply Int32.toBitVec_inj.mp
  show BitVec.ofNat 32 x ^^^ BitVec.ofNat 32 y = BitVec.ofNat 32 (x ^^^ y)
  exact (BitVec.ofNat_xor).symm
theorem xor_e {a c : Nat} (ha : a < 65536) (hc : c < 65536) : (Int32.ofNat c = Int32.ofNat a ^^^ 65535 ↔ c = a ^^^ 65535) ∧ (Int32.ofNat a ^^^ Int32.ofNat c = 65535 ↔ c = a ^^^ 65535) := by
  have b1 : a ^^^ 65535 < 2 ^ 16 := Nat.xor_lt_two_pow (by omega) (by omega)
  have b2 : a ^^^ c < 2 ^ 16 := Nat.xor_lt_two_pow (by omega) (by omega)
  have e1 : Int32.ofNat a ^^^ 65535 = Int32.ofNat (a ^^^ 65535) := n_xor (y := 65535)
  have e2 : (65535 : Int32) = Int32.ofNat 65535 := rfl
  refine ⟨?_, ?_⟩
  · rw [e1]
    exact n_eq (by omega) (by omega)
  · rw [n_xor, e2, n_eq (by omega) (by omega)]
    constructor
    · intro h
      rw [← h, ← Nat.xor_assoc, Nat.xor_self, Nat.zero_xor]
    · intro h
      rw [h, ← Nat.xor_assoc, Nat.xor_self, Nat.zero_xor]
theorem stored7 {s : e_S} {g : ps_G} {K : Nat → Int32} {n d : Nat} {t : Nat × Nat × (Nat → Int32)} (h : GC s K n d t.1 t.2.1 t.2.2) : ∃ s', fX2_stored (e_g s g) 128 = some (e_g s' g) ∧ KC s s' ∧ (∀ t', sdO K n d t = some t' → GC s' K n d t'.1 t'.2.1 t'.2.2 ∧ t.1 ≤ t'.1) ∧ (sdO K n d t = none → BC s' K n) := by
  have a8 := al8_i h.1.2.1
  have h1 := gc_b h a8.2
  have k1 : KC s (sF s 128 2 (Int32.ofNat (al8 t.1))) := kcF (by decide)
  have R := rb7 (g := g) (m := 16) h1 (by omega)
  have p16 : (2 : Nat) ^ 16 = 65536 := by decide
  have o1 : ∀ x : Int32, x = 0 ∨ x = 1 → (1 : Int32) ||| x = 1 := by
    intro x hx
    rcases hx with hx | hx <;> rw [hx] <;> decide
  have o0 : ∀ x : Int32, x = 0 ∨ x = 1 → (0 : Int32) ||| x = x := by
    intro x hx
    rcases hx with hx | hx <;> rw [hx] <;> decide
  have sp : ∀ p : Prop, [Decidable p] → (if p then (0 : Int32) else 1) = 0 ∨ (if p then (0 : Int32) else 1) = 1 := fun p _ => by
    split
    · exact Or.inl rfl
    · exact Or.inr rfl
  have stop : ∀ (S : e_S) (x : Int32), BC S K n → q_lp (fun y => bX2_stored_40 128 x y.1 y.2) ((0 : Int32), e_g S g) = some (e_g S g) := fun S x hS => by
    refine lp_end ?_
    show bX2_stored_40 _ _ _ _ = _
    unfold bX2_stored_40
    by_cases qq : x ≤ 0
    · rw [if_pos qq]
    · rw [if_neg qq, f128_3, hS.1, ob_n, if_pos (by decide)]
  have pre : ∀ {v : Int32} {G : ps_G}, fX2_readBits (e_g (sF s 128 2 (Int32.ofNat (al8 t.1))) g) 128 (Int32.ofNat 16) = some (v, G) → fX2_stored (e_g s g) 128 = Option.bind (q_fI 2 3 G 128) fun v6 => Option.bind (q_ob 2 G 128) fun u7 => q_b2 (fX2_readBits G 128 (16 : Int32)) fun v8 g9 => Option.bind (q_sB 2 3 g9 128 (v6 ||| (if v8 = (v ^^^ (65535 : Int32)) then (0 : Int32) else (1 : Int32)))) fun g13 => Option.bind (q_lp (fun s => bX2_stored_40 128 v s.1 s.2) ((0 : Int32), g13)) fun s33 => jX2_stored_77 s33 := fun {v G} z => by
    have z' : fX2_readBits (e_g (sF s 128 2 (Int32.ofNat (al8 t.1))) g) 128 16 = some (v, G) := z
    unfold fX2_stored
    rw [ob128, ob_n, toByte7 h.1, ob_n, ob128, ob_n, z', b2_n]
  cases ea : rbO K n (al8 t.1) 16 with
  | none =>
    obtain ⟨v, s1, r1, r2, r3⟩ := R.2 ea
    obtain ⟨v2, s2, q1, q2, q3⟩ := rb7b (g := g) (m := 16) r2 (by omega)
    have q1' : fX2_readBits (e_g s1 g) 128 16 = some (v2, e_g s2 g) := q1
    have id1 : sF s2 128 3 1 = s2 := by rw [← q2.1, sF_id]
    have u : sdO K n d t = none := by unfold sdO; rw [ea, ob_no]
    rw [u]
    refine ⟨s2, ?_, kp_tr k1 (kp_tr r3 q3), fun t' z => (by cases z), fun _ => q2⟩
    rw [pre r1, f128_3, r2.1, ob_n, ob128, ob_n, q1', b2_n, o1 _ (sp _), w128_3 (Or.inr rfl), ob_n, id1, stop s2 _ q2, ob_n]
    rfl
  | some a =>
    obtain ⟨a1, a2⟩ := a
    obtain ⟨r1, r2, r3⟩ := R.1 a1 a2 ea
    rw [sF_sF] at r1 r2
    have k2 : KC s (sF s 128 2 (Int32.ofNat a2)) := kcF (by decide)
    have as := rbO_s ea
    have R2 := rb7 (g := g) (m := 16) r2 (by omega)
    have w3 : (sF s 128 2 (Int32.ofNat a2)).1 128 3 = 0 := r2.2.1
    have u0 : sdO K n d t = (rbO K n a2 16).bind fun c => if c.1 = a1 ^^^ 65535 then sbO K n d a1 (c.2, t.2.1, t.2.2) else none := by unfold sdO; rw [ea, ob_n]
    have n8 := h.1.1
    cases ec : rbO K n a2 16 with
    | none =>
      have sx := readBits7 (g := g) (m := 16) r2.1 (by omega)
      rw [if_neg (rbO_n ec), sF_sF] at sx
      have sx' : fX2_readBits (e_g (sF s 128 2 (Int32.ofNat a2)) g) 128 16 = _ := sx
      have h8 := gc_b h (Nat.le_refl (8 * n))
      have k3 : KC s (sF s 128 2 (Int32.ofNat (8 * n))) := kcF (by decide)
      rw [u0, ec, ob_no]
      by_cases qx : (0 : Int32) = Int32.ofNat a1 ^^^ 65535
      · have hx : 0 = a1 ^^^ 65535 := (xor_e (a := a1) (c := 0) (by omega) (by omega)).1.mp qx
        have ha : a1 = 65535 := by
          have e : a1 ^^^ (a1 ^^^ 65535) = 65535 := by rw [← Nat.xor_assoc, Nat.xor_self, Nat.zero_xor]
          rw [← hx, Nat.xor_zero] at e
          exact e
        have id0 : sF (sF (sF s 128 2 (Int32.ofNat (8 * n))) 128 3 1) 128 3 0 = sF s 128 2 (Int32.ofNat (8 * n)) := by
          have hw : (sF s 128 2 (Int32.ofNat (8 * n))).1 128 3 = 0 := h8.2.1
          rw [sF_sF, ← hw, sF_id]
        obtain ⟨s', l1, l2, l3, l4⟩ := sbl7 (g := g) (K := K) (n := n) (d := d) (many := a1) (by omega) a1 0 (sF s 128 2 (Int32.ofNat (8 * n))) (8 * n, t.2.1, t.2.2) (by omega) h8
        have l1' : q_lp (fun x => bX2_stored_40 128 (Int32.ofNat a1) x.1 x.2) ((0 : Int32), e_g (sF s 128 2 (Int32.ofNat (8 * n))) g) = some (e_g s' g) := l1
        refine ⟨s', ?_, kp_tr k3 l2, fun t' z => (by cases z), fun _ => l4 ?_⟩
        · rw [pre r1, f128_3, w3, ob_n, ob128, ob_n, sx', b2_n, o0 _ (sp _), if_pos qx, w128_3 (Or.inl rfl), ob_n, id0, l1', ob_n]
          rfl
        · exact sb_0 a1 (by omega)
      · have id1 : sF (sF (sF s 128 2 (Int32.ofNat (8 * n))) 128 3 1) 128 3 1 = sF (sF s 128 2 (Int32.ofNat (8 * n))) 128 3 1 := by rw [sF_sF]
        have bS : BC (sF (sF s 128 2 (Int32.ofNat (8 * n))) 128 3 1) K n := bc_w h8.1
        refine ⟨sF (sF s 128 2 (Int32.ofNat (8 * n))) 128 3 1, ?_, kp_tr k3 (kcF (by decide)), fun t' z => (by cases z), fun _ => bS⟩
        rw [pre r1, f128_3, w3, ob_n, ob128, ob_n, sx', b2_n, o0 _ (sp _), if_neg qx, w128_3 (Or.inr rfl), ob_n, id1, stop _ _ bS, ob_n]
        rfl
    | some c =>
      obtain ⟨c1, c2⟩ := c
      obtain ⟨q1, q2, q3⟩ := R2.1 c1 c2 ec
      rw [sF_sF] at q1 q2
      have q1' : fX2_readBits (e_g (sF s 128 2 (Int32.ofNat a2)) g) 128 16 = some (Int32.ofNat c1, e_g (sF s 128 2 (Int32.ofNat c2)) g) := q1
      have k3 : KC s (sF s 128 2 (Int32.ofNat c2)) := kcF (by decide)
      have cs' := rbO_s ec
      have xe := (xor_e (a := a1) (c := c1) (by omega) (by omega)).1
      rw [u0, ec, ob_n]
      by_cases qx : c1 = a1 ^^^ 65535
      · rw [if_pos qx]
        have id0 : sF (sF s 128 2 (Int32.ofNat c2)) 128 3 0 = sF s 128 2 (Int32.ofNat c2) := by
          have hw : (sF s 128 2 (Int32.ofNat c2)).1 128 3 = 0 := q2.2.1
          rw [← hw, sF_id]
        obtain ⟨s', l1, l2, l3, l4⟩ := sbl7 (g := g) (K := K) (n := n) (d := d) (many := a1) (by omega) a1 0 (sF s 128 2 (Int32.ofNat c2)) (c2, t.2.1, t.2.2) (by omega) q2
        have l1' : q_lp (fun x => bX2_stored_40 128 (Int32.ofNat a1) x.1 x.2) ((0 : Int32), e_g (sF s 128 2 (Int32.ofNat c2)) g) = some (e_g s' g) := l1
        refine ⟨s', ?_, kp_tr k3 l2, fun t' z => ?_, l4⟩
        · rw [pre r1, f128_3, w3, ob_n, ob128, ob_n, q1', b2_n, o0 _ (sp _), if_pos (xe.mpr qx), w128_3 (Or.inl rfl), ob_n, id0, l1', ob_n]
          rfl
        · obtain ⟨y1, y2⟩ := l3 t' z
          exact ⟨y1, by have y3 : c2 ≤ t'.1 := y2; omega⟩
      · rw [if_neg qx]
        have bS : BC (sF (sF s 128 2 (Int32.ofNat c2)) 128 3 1) K n := bc_w q2.1
        refine ⟨sF (sF s 128 2 (Int32.ofNat c2)) 128 3 1, ?_, kp_tr k3 (kcF (by decide)), fun t' z => (by cases z), fun _ => bS⟩
        rw [pre r1, f128_3, w3, ob_n, ob128, ob_n, q1', b2_n, o0 _ (sp _), if_neg (fun z => qx (xe.mp z)), w128_3 (Or.inr rfl), ob_n, stop _ _ bS, ob_n]
        rfl
theorem stored12 {s : e_S} {g : ps_G} {K : Nat → Int32} {n d : Nat} {t : Nat × Nat × (Nat → Int32)} (h : GM s K n d t.1 t.2.1 t.2.2) : ∃ s', fX12_stored (e_g s g) 139 = some (e_g s' g) ∧ KM s s' ∧ (∀ t', sdO K n d t = some t' → GM s' K n d t'.1 t'.2.1 t'.2.2) ∧ (sdO K n d t = none → s'.1 139 87 = 1) := by
  have n8 := h.1.1
  have a8 := al8_i h.1.2.1
  have h1 := gm_b h a8.2
  have k1 : KM s (sF s 139 88 (Int32.ofNat (al8 t.1))) := kmF (by decide)
  have al := align12 (g := g) (fun G => bX12_stored_0 139 G) (fun G => rfl) (s := s) (al8 t.1 - t.1) t.1 (by omega) (by omega) h.1.2.2.2.1
  have R := rb12 (g := g) (m := 16) h1 (by omega)
  have p16 : (2 : Nat) ^ 16 = 65536 := by decide
  have stop : ∀ (S : e_S) (x : Int32), S.1 139 87 = 1 → jX12_stored_58 (e_g S g) 139 x = some (e_g S g) := fun S x hS => by
    have lp : q_lp (fun y => bX12_stored_60 139 x y.1 y.2) ((0 : Int32), e_g S g) = some (e_g S g) := by
      refine lp_end ?_
      show bX12_stored_60 _ _ _ _ = _
      unfold bX12_stored_60
      by_cases qq : x ≤ 0
      · rw [if_pos qq]
      · rw [if_neg qq, f139_87, hS, ob_n, if_pos (by decide)]
    unfold jX12_stored_58 jX12_stored_88
    rw [lp, ob_n]
  have pre : ∀ {v : Int32} {G : ps_G}, fX12_low (e_g (sF s 139 88 (Int32.ofNat (al8 t.1))) g) 139 (Int32.ofNat 16) = some (v, G) → fX12_stored (e_g s g) 139 = Option.bind (q_ob 12 G 139) fun u12 => q_b2 (fX12_low G 139 (16 : Int32)) fun v13 g14 => Option.bind (q_fI 12 87 g14 139) fun v15 => if ¬ v15 = 0 then (jX12_stored_58 g14 139 v) else (if (v ^^^ v13) = (65535 : Int32) then (jX12_stored_58 g14 139 v) else (Option.bind (q_sB 12 87 g14 139 (1 : Int32)) fun g36 => jX12_stored_58 g36 139 v)) := fun {v G} z => by
    have z' : fX12_low (e_g (sF s 139 88 (Int32.ofNat (al8 t.1))) g) 139 16 = some (v, G) := z
    unfold fX12_stored
    rw [al, ob_n, ob139, ob_n, z', b2_n]
  cases ea : rbO K n (al8 t.1) 16 with
  | none =>
    obtain ⟨v, s1, r1, r2, r3⟩ := R.2 ea
    obtain ⟨v2, q1⟩ := low12b (g := g) (m := 16) r2 (by omega)
    have q1' : fX12_low (e_g s1 g) 139 16 = some (v2, e_g s1 g) := q1
    have u : sdO K n d t = none := by unfold sdO; rw [ea, ob_no]
    rw [u]
    refine ⟨s1, ?_, kp_tr k1 r3, fun t' z => (by cases z), fun _ => r2⟩
    rw [pre r1, ob139, ob_n, q1', b2_n, f139_87, r2, ob_n, if_pos (by decide), stop s1 _ r2]
  | some a =>
    obtain ⟨a1, a2⟩ := a
    obtain ⟨r1, r2, r3⟩ := R.1 a1 a2 ea
    rw [sF_sF] at r1 r2
    have k2 : KM s (sF s 139 88 (Int32.ofNat a2)) := kmF (by decide)
    have R2 := rb12 (g := g) (m := 16) r2 (by omega)
    have u0 : sdO K n d t = (rbO K n a2 16).bind fun c => if c.1 = a1 ^^^ 65535 then sbO K n d a1 (c.2, t.2.1, t.2.2) else none := by unfold sdO; rw [ea, ob_n]
    cases ec : rbO K n a2 16 with
    | none =>
      obtain ⟨v2, s2, q1, q2, q3⟩ := R2.2 ec
      have q1' : fX12_low (e_g (sF s 139 88 (Int32.ofNat a2)) g) 139 16 = some (v2, e_g s2 g) := q1
      rw [u0, ec, ob_no]
      refine ⟨s2, ?_, kp_tr k2 q3, fun t' z => (by cases z), fun _ => q2⟩
      rw [pre r1, ob139, ob_n, q1', b2_n, f139_87, q2, ob_n, if_pos (by decide), stop s2 _ q2]
    | some c =>
      obtain ⟨c1, c2⟩ := c
      obtain ⟨q1, q2, q3⟩ := R2.1 c1 c2 ec
      rw [sF_sF] at q1 q2
      have q1' : fX12_low (e_g (sF s 139 88 (Int32.ofNat a2)) g) 139 16 = some (Int32.ofNat c1, e_g (sF s 139 88 (Int32.ofNat c2)) g) := q1
      have k3 : KM s (sF s 139 88 (Int32.ofNat c2)) := kmF (by decide)
      have w3 : (sF s 139 88 (Int32.ofNat c2)).1 139 87 = 0 := q2.2.1
      have xe := (xor_e (a := a1) (c := c1) (by omega) (by omega)).2
      rw [u0, ec, ob_n]
      by_cases qx : c1 = a1 ^^^ 65535
      · rw [if_pos qx]
        obtain ⟨s', l1, l2, l3, l4⟩ := sbl12 (g := g) (K := K) (n := n) (d := d) (many := a1) (by omega) a1 0 (sF s 139 88 (Int32.ofNat c2)) (c2, t.2.1, t.2.2) (by omega) q2
        have l1' : q_lp (fun x => bX12_stored_60 139 (Int32.ofNat a1) x.1 x.2) ((0 : Int32), e_g (sF s 139 88 (Int32.ofNat c2)) g) = some (e_g s' g) := l1
        refine ⟨s', ?_, kp_tr k3 l2, l3, l4⟩
        rw [pre r1, ob139, ob_n, q1', b2_n, f139_87, w3, ob_n, if_neg (fun z => z rfl), if_pos (xe.mpr qx)]
        unfold jX12_stored_58 jX12_stored_88
        rw [l1', ob_n]
      · rw [if_neg qx]
        have bS : (sF (sF s 139 88 (Int32.ofNat c2)) 139 87 1).1 139 87 = 1 := by rw [F_sF, if_pos ⟨rfl, rfl⟩]
        refine ⟨sF (sF s 139 88 (Int32.ofNat c2)) 139 87 1, ?_, kp_tr k3 (kmF (by decide)), fun t' z => (by cases z), fun _ => bS⟩
        rw [pre r1, ob139, ob_n, q1', b2_n, f139_87, w3, ob_n, if_neg (fun z => z rfl), if_neg (fun z => qx (xe.mp z)), w139_87 (Or.inr rfl), ob_n, stop _ _ bS]
