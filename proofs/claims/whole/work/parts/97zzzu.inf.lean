-- needs: 97zzzt
/-! ===== png: all blocks, and bytes ===== -/
noncomputable def inO (K : Nat → Int32) (n d : Nat) : Nat → (Nat × Nat × (Nat → Int32)) → Option (Nat × Nat × (Nat → Int32))
  | 0, _ => none
  | m + 1, t => (blO K n d t).bind fun r => if r.1 = 1 then some r.2 else inO K n d m r.2
theorem in_u {K : Nat → Int32} {n d m : Nat} {t : Nat × Nat × (Nat → Int32)} : inO K n d (m + 1) t = (blO K n d t).bind fun r => if r.1 = 1 then some r.2 else inO K n d m r.2 := rfl
theorem infl7 {g : ps_G} {K : Nat → Int32} {n d : Nat} (hT : TbC g) : ∀ (m gd : Nat) (t : Nat × Nat × (Nat → Int32)) (s : e_S), 8 * n < t.1 + m → gd < t.1 → GC s K n d t.1 t.2.1 t.2.2 → ∃ s', q_lp (fun x => bX2_inflate_86 128 x.1 x.2.1 x.2.2) ((0 : Int32), Int32.ofNat gd, e_g s g) = some (e_g s' g) ∧ KD s s' ∧ (∀ t', inO K n d m t = some t' → GC s' K n d t'.1 t'.2.1 t'.2.2) ∧ (inO K n d m t = none → BC s' K n) := by
  intro m
  induction m with
  | zero =>
    intro gd t s h1 h2 h
    have := h.1.2.1
    omega
  | succ m ih =>
    intro gd t s h1 h2 h
    have b8 := h.1.2.1
    have n8 := h.1.1
    obtain ⟨s1, x, r1, r2, r3, r4⟩ := block7 (g := g) (gd := gd) hT (by omega) h
    rw [in_u, lp_go3 (bX2_inflate_86 128) r1]
    have fin : (¬ x = 0 ∨ s1.1 128 3 = 1) → q_lp (fun y => bX2_inflate_86 128 y.1 y.2.1 y.2.2) (x, Int32.ofNat (gd + 1), e_g s1 g) = some (e_g s1 g) := fun hx => by
      refine lp_end ?_
      show bX2_inflate_86 _ _ _ _ = _
      unfold bX2_inflate_86
      dsimp only
      by_cases q : (64000 : Int32) ≤ Int32.ofNat (gd + 1) ∨ ¬ x = 0
      · rw [if_pos q]
      · rw [if_neg q]
        rcases hx with hx | hx
        · exact absurd (Or.inr hx) q
        · rw [f128_3, hx, ob_n, if_pos (by decide)]
    cases eb : blO K n d t with
    | none =>
      have bS := r4 eb
      rw [ob_no]
      exact ⟨s1, fin (Or.inr bS.1), r2, fun t' z => (by cases z), fun _ => bS⟩
    | some r =>
      obtain ⟨l, t1⟩ := r
      obtain ⟨y1, y2, y3⟩ := r3 l t1 eb
      rw [ob_n]
      dsimp only
      by_cases q : l = 1
      · rw [if_pos q] at y3 ⊢
        refine ⟨s1, fin (Or.inl (by rw [y3]; decide)), r2, fun t' z => ?_, fun z => (by cases z)⟩
        have e : t1 = t' := Option.some.inj z
        rw [← e]; exact y1
      · rw [if_neg q] at y3 ⊢
        obtain ⟨s', l1, l2, l3, l4⟩ := ih (gd + 1) t1 s1 (by omega) (by omega) y1
        rw [y3]
        exact ⟨s', l1, kp_tr r2 l2, l3, l4⟩
theorem infl12 {g : ps_G} {K : Nat → Int32} {n d : Nat} : ∀ (m : Nat) (t : Nat × Nat × (Nat → Int32)) (s : e_S), TbM s → (∀ j, j < 19 → s.2.1 186 j = tbV 6 j) → GM s K n d t.1 t.2.1 t.2.2 → (∃ M : Nat, 8 * n < t.1 + M ∧ M ≤ m) → (∀ t t' : Nat × Nat × (Nat → Int32), ∀ l, blO K n d t = some (l, t') → t.1 < t'.1) → ∃ r s', q_lp (fun x => bX12_inflate_76 139 x.1 x.2) ((0 : Int32), e_g s g) = some r ∧ KN s s' ∧ (∀ t', inO K n d m t = some t' → r = .inl (e_g s' g) ∧ GM s' K n d t'.1 t'.2.1 t'.2.2) ∧ (inO K n d m t = none → (r = .inl (e_g s' g) ∨ r = .inr (e_g s' g)) ∧ s'.1 139 87 = 1) := by
  intro m
  induction m with
  | zero =>
    intro t s hT h6 h hM _
    obtain ⟨M, m1, m2⟩ := hM
    have := h.1.2.1
    omega
  | succ m ih =>
    intro t s hT h6 h hM inc
    obtain ⟨s1, x, k1, r3, r4⟩ := block12 (g := g) hT h6 h
    rw [in_u]
    have fin : (¬ x = 0 ∨ s1.1 139 87 = 1) → q_lp (fun y => bX12_inflate_76 139 y.1 y.2) (x, e_g s1 g) = some (.inl (e_g s1 g)) := fun hx => by
      refine lp_end ?_
      show bX12_inflate_76 _ _ _ = _
      unfold bX12_inflate_76
      dsimp only
      rw [f139_87, ob_n, if_pos]
      rcases hx with hx | hx
      · exact Or.inr hx
      · rw [hx]; exact Or.inl (by decide)
    cases eb : blO K n d t with
    | none =>
      obtain ⟨y1, y2⟩ := r4 eb
      rw [ob_no]
      rcases y2 with y2 | y2
      · refine ⟨.inl (e_g s1 g), s1, ?_, k1, fun t' z => (by cases z), fun _ => ⟨Or.inl rfl, y1⟩⟩
        rw [lp_go2 (bX12_inflate_76 139) y2, fin (Or.inr y1)]
      · exact ⟨.inr (e_g s1 g), s1, lp_end y2, k1, fun t' z => (by cases z), fun _ => ⟨Or.inr rfl, y1⟩⟩
    | some r =>
      obtain ⟨l, t1⟩ := r
      obtain ⟨y1, y2, y3⟩ := r3 l t1 eb
      rw [ob_n]
      dsimp only
      rw [lp_go2 (bX12_inflate_76 139) y1]
      by_cases q : l = 1
      · rw [if_pos q] at y3 ⊢
        refine ⟨.inl (e_g s1 g), s1, fin (Or.inl (by rw [y3]; decide)), k1, fun t' z => ?_, fun z => (by cases z)⟩
        have e : t1 = t' := Option.some.inj z
        rw [← e]; exact ⟨rfl, y2⟩
      · rw [if_neg q] at y3 ⊢
        have hT1 : TbM s1 := by
          unfold TbM
          rw [k1.1 182 (by decide), k1.1 183 (by decide), k1.1 184 (by decide), k1.1 185 (by decide)]
          exact hT
        obtain ⟨M, m1, m2⟩ := hM
        have b8 := h.1.2.1
        have lt := inc t t1 l eb
        obtain ⟨r, s', l1, l2, l3, l4⟩ := ih t1 s1 hT1 (fun j hj => by rw [k1.1 186 (by decide)]; exact h6 j hj) y2 ⟨M - 1, by omega, by omega⟩ inc
        rw [y3]
        exact ⟨r, s', l1, kp_tr k1 l2, l3, l4⟩
/-- bits only grow, and what is put down is bytes -/
theorem by_cy {O : Nat → Int32} {sz dist : Nat} (h : ByO (O, sz)) (h1 : 1 ≤ dist) (h2 : dist ≤ sz) : ∀ k, ByO (cyV O sz dist k, sz + k) := by
  intro k
  induction k with
  | zero => exact h
  | succ k ih =>
    intro i hi
    have hi' : i < sz + (k + 1) := hi
    show rg (upd (cyV O sz dist k) (sz + k) (cyV O sz dist k (sz + k - dist)) i) 0 255 = true
    rw [upd_r]
    split
    · exact ih (sz + k - dist) (by show sz + k - dist < sz + k; omega)
    · exact ih i (by show i < sz + k; omega)
def BG (t t' : Nat × Nat × (Nat → Int32)) : Prop := t.1 ≤ t'.1 ∧ (ByO (t.2.2, t.2.1) → ByO (t'.2.2, t'.2.1))
theorem by_nat {v : Nat} (h : v < 256) : rg (Int32.ofNat v) 0 255 = true := by
  rw [rg_i, n_int (by omega)]
  have e0 : (0 : Int32).toInt = 0 := by decide
  have e5 : (255 : Int32).toInt = 255 := by decide
  rw [e0, e5]
  omega
theorem by_up {O : Nat → Int32} {z v : Nat} (h : ByO (O, z)) (hv : v < 256) : ByO (upd O z (Int32.ofNat v), z + 1) := by_p (P := (O, z)) h (by_nat hv)
theorem bg_fc {K : Nat → Int32} {n d k n1 : Nat} {L1 : Nat → Nat} {t t' : Nat × Nat × (Nat → Int32)} (h : fcO K n d L1 n1 k t = some t') : BG t t' := by
  refine ⟨fcO_b h, fun hB => ?_⟩
  rw [fc_u] at h
  cases e1 : rbO K n t.1 (xbV 3 k) with
  | none => rw [e1, ob_no] at h; cases h
  | some q =>
    obtain ⟨q1, q2⟩ := q
    rw [e1, ob_n] at h
    dsimp only at h
    cases e2 : dcN L1 n1 K n 15 0 0 q2 with
    | none => rw [e2, ob_no] at h; cases h
    | some f =>
      obtain ⟨f1, f2⟩ := f
      rw [e2, ob_n] at h
      dsimp only at h
      by_cases q29 : 29 < f1
      · rw [if_pos q29] at h; cases h
      · rw [if_neg q29] at h
        have x4 := xb_4 (i := f1) (by omega)
        cases e3 : rbO K n f2 (xbV 5 f1) with
        | none => rw [e3, ob_no] at h; cases h
        | some e =>
          obtain ⟨a1, a2⟩ := e
          rw [e3, ob_n] at h
          dsimp only at h
          by_cases q4 : t.2.1 < xbV 4 f1 + a1
          · rw [if_pos q4] at h; cases h
          · rw [if_neg q4] at h
            by_cases q5 : d < t.2.1 + (xbV 2 k + q1)
            · rw [if_pos q5] at h; cases h
            · rw [if_neg q5] at h
              have h' := Option.some.inj h
              rw [← h']
              exact by_cy hB (by omega) (by omega) _
theorem bg_st {K : Nat → Int32} {n d n0 n1 : Nat} {L0 L1 : Nat → Nat} {t t' : Nat × Nat × (Nat → Int32)} (h : stQ K n d L0 L1 n0 n1 t = some (.inl t') ∨ stQ K n d L0 L1 n0 n1 t = some (.inr t')) : BG t t' ∧ t.1 < t'.1 := by
  rw [st_u] at h
  cases ed : dcN L0 n0 K n 15 0 0 t.1 with
  | none =>
    rw [ed, ob_no] at h
    rcases h with h | h <;> cases h
  | some p =>
    obtain ⟨p1, p2⟩ := p
    have i := dc_i (L := L0) 15 0 0 t.1 (by omega) (by omega) p1 p2 ed
    rw [ed, ob_n] at h
    dsimp only at h
    by_cases q1 : p1 = 256
    · rw [if_pos q1] at h
      rcases h with h | h
      · cases h
      · have e := Sum.inr.inj (Option.some.inj h)
        rw [← e]
        exact ⟨⟨Nat.le_of_lt i.2.1, fun z => z⟩, i.2.1⟩
    · rw [if_neg q1] at h
      by_cases q2 : p1 < 256
      · rw [if_pos q2] at h
        by_cases q3 : t.2.1 < d
        · rw [if_pos q3] at h
          rcases h with h | h
          · have e := Sum.inl.inj (Option.some.inj h)
            rw [← e]
            exact ⟨⟨Nat.le_of_lt i.2.1, fun z => by_up z q2⟩, i.2.1⟩
          · cases h
        · rw [if_neg q3] at h
          rcases h with h | h <;> cases h
      · rw [if_neg q2] at h
        by_cases q3 : 285 < p1
        · rw [if_pos q3] at h
          rcases h with h | h <;> cases h
        · rw [if_neg q3] at h
          cases ef : fcO K n d L1 n1 (p1 - 257) (p2, t.2.1, t.2.2) with
          | none =>
            rw [ef, ob_no] at h
            rcases h with h | h <;> cases h
          | some t2 =>
            rw [ef, ob_n] at h
            rcases h with h | h
            · have e := Sum.inl.inj (Option.some.inj h)
              have b := bg_fc ef
              have b1 : p2 ≤ t2.1 := b.1
              rw [← e]
              exact ⟨⟨by omega, b.2⟩, by omega⟩
            · cases h
theorem bg_sm {K : Nat → Int32} {n d n0 n1 : Nat} {L0 L1 : Nat → Nat} : ∀ (m : Nat) (t t' : Nat × Nat × (Nat → Int32)), smS K n d L0 L1 n0 n1 m t = some t' → BG t t' := by
  intro m
  induction m with
  | zero => intro t t' h; cases h
  | succ m ih =>
    intro t t' h
    rw [sm_u] at h
    cases es : stQ K n d L0 L1 n0 n1 t with
    | none => rw [es, ob_no] at h; cases h
    | some r =>
      rw [es, ob_n] at h
      cases r with
      | inl t1 =>
        rw [Sum.elim_inl] at h
        have a := (bg_st (Or.inl es)).1
        have b := ih t1 t' h
        exact ⟨Nat.le_trans a.1 b.1, fun z => b.2 (a.2 z)⟩
      | inr t1 =>
        rw [Sum.elim_inr] at h
        have e : t1 = t' := Option.some.inj h
        rw [← e]
        exact (bg_st (Or.inr es)).1
theorem bg_sb {K : Nat → Int32} {n d : Nat} : ∀ (m : Nat) (t t' : Nat × Nat × (Nat → Int32)), sbO K n d m t = some t' → BG t t' := by
  intro m
  induction m with
  | zero =>
    intro t t' h
    have e : t = t' := Option.some.inj h
    rw [← e]
    exact ⟨Nat.le_refl _, fun z => z⟩
  | succ m ih =>
    intro t t' h
    have u : sbO K n d (m + 1) t = (rbO K n t.1 8).bind fun v => if t.2.1 < d then sbO K n d m (v.2, t.2.1 + 1, upd t.2.2 t.2.1 (Int32.ofNat v.1)) else none := rfl
    rw [u] at h
    cases er : rbO K n t.1 8 with
    | none => rw [er, ob_no] at h; cases h
    | some v =>
      obtain ⟨v1, v2⟩ := v
      have rs := rbO_s er
      have lt := rb_lt (K := K) (b := t.1) 8
      have p8 : (2 : Nat) ^ 8 = 256 := by decide
      rw [er, ob_n] at h
      dsimp only at h
      by_cases q : t.2.1 < d
      · rw [if_pos q] at h
        have b := ih _ t' h
        have b1 : v2 ≤ t'.1 := b.1
        exact ⟨by omega, fun z => b.2 (by_up z (by omega))⟩
      · rw [if_neg q] at h; cases h
theorem cl_b {K : Nat → Int32} {n : Nat} : ∀ (m i b : Nat) (L : Nat → Nat) (c : Nat × (Nat → Nat)), clO K n m i b L = some c → b ≤ c.1 := by
  intro m
  induction m with
  | zero =>
    intro i b L c h
    have e : (b, L) = c := Option.some.inj h
    rw [← e]
    exact Nat.le_refl _
  | succ m ih =>
    intro i b L c h
    rw [cl_u] at h
    cases er : rbO K n b 3 with
    | none => rw [er, ob_no] at h; cases h
    | some v =>
      obtain ⟨v1, v2⟩ := v
      have rs := rbO_s er
      rw [er, ob_n] at h
      have := ih _ _ _ c h
      dsimp only at this
      omega
theorem rp_b {K : Nat → Int32} {n a : Nat} {L : Nat → Nat} {p : Nat × Nat} {q : Nat × Nat × Nat} (h : rpO K n a L p = some q) : p.2 ≤ q.2.2 := by
  unfold rpO at h
  have fin : ∀ (mm : Nat) (F : Nat × Nat → Option (Nat × Nat × Nat)), (∀ x q, F x = some q → q.2.2 = x.2) → ((rbO K n p.2 mm).bind F) = some q → p.2 ≤ q.2.2 := fun mm F hF z => by
    cases er : rbO K n p.2 mm with
    | none => rw [er, ob_no] at z; cases z
    | some v =>
      obtain ⟨v1, v2⟩ := v
      have rs := rbO_s er
      rw [er, ob_n] at z
      have := hF _ _ z
      dsimp only at this
      omega
  by_cases c1 : p.1 < 16
  · rw [if_pos c1] at h
    have e := Option.some.inj h
    rw [← e]
    exact Nat.le_refl _
  · rw [if_neg c1] at h
    by_cases c2 : p.1 = 16
    · rw [if_pos c2] at h
      refine fin 2 _ (fun x q hq => ?_) h
      by_cases a0 : a = 0
      · rw [if_pos a0] at hq; cases hq
      · rw [if_neg a0] at hq
        have e := Option.some.inj hq
        rw [← e]
    · rw [if_neg c2] at h
      by_cases c3 : p.1 = 17
      · rw [if_pos c3] at h
        refine fin 3 _ (fun x q hq => ?_) h
        have e := Option.some.inj hq
        rw [← e]
      · rw [if_neg c3] at h
        refine fin 7 _ (fun x q hq => ?_) h
        have e := Option.some.inj hq
        rw [← e]
theorem rd_b {K : Nat → Int32} {n tot : Nat} {Lc : Nat → Nat} : ∀ (m : Nat) (t t' : Nat × Nat × (Nat → Nat)), rdO K n Lc tot m t = some t' → t.2.1 ≤ t'.2.1 := by
  intro m
  induction m with
  | zero => intro t t' h; cases h
  | succ m ih =>
    intro t t' h
    rw [rd_u] at h
    by_cases q : tot ≤ t.1
    · rw [if_pos q] at h
      have e : t = t' := Option.some.inj h
      rw [← e]
      exact Nat.le_refl _
    · rw [if_neg q] at h
      cases ed : dcN Lc 19 K n 15 0 0 t.2.1 with
      | none => rw [ed, ob_no] at h; cases h
      | some p =>
        obtain ⟨p1, p2⟩ := p
        have i := dc_i (L := Lc) 15 0 0 t.2.1 (by omega) (by omega) p1 p2 ed
        rw [ed, ob_n] at h
        cases er : rpO K n t.1 t.2.2 (p1, p2) with
        | none => rw [er, ob_no] at h; cases h
        | some q2 =>
          rw [er, ob_n] at h
          have rb := rp_b er
          dsimp only at rb h
          by_cases q3 : tot < t.1 + q2.1
          · rw [if_pos q3] at h; cases h
          · rw [if_neg q3] at h
            have := ih _ t' h
            dsimp only at this
            omega
theorem td_b {K : Nat → Int32} {n b : Nat} {c : Nat × (Nat → Nat) × Nat × Nat} (h : tdO K n b = some c) : b ≤ c.1 := by
  unfold tdO at h
  cases e1 : rbO K n b 5 with
  | none => rw [e1, ob_no] at h; cases h
  | some a1 =>
    obtain ⟨x1, y1⟩ := a1
    have r1 := rbO_s e1
    rw [e1, ob_n] at h
    dsimp only at h
    cases e2 : rbO K n y1 5 with
    | none => rw [e2, ob_no] at h; cases h
    | some a2 =>
      obtain ⟨x2, y2⟩ := a2
      have r2 := rbO_s e2
      rw [e2, ob_n] at h
      dsimp only at h
      cases e3 : rbO K n y2 4 with
      | none => rw [e3, ob_no] at h; cases h
      | some a3 =>
        obtain ⟨x3, y3⟩ := a3
        have r3 := rbO_s e3
        rw [e3, ob_n] at h
        dsimp only at h
        by_cases q : 286 < x1 + 257 ∨ 30 < x2 + 1
        · rw [if_pos q] at h; cases h
        · rw [if_neg q] at h
          cases ec : clO K n (x3 + 4) 0 y3 (fun _ => 0) with
          | none => rw [ec, ob_no] at h; cases h
          | some cc =>
            have cb := cl_b _ _ _ _ _ ec
            rw [ec, ob_n] at h
            unfold td2 at h
            by_cases ok : okC cc.2 19 2
            · rw [if_pos ok] at h
              cases er : rdO K n cc.2 (x1 + 257 + (x2 + 1)) (x1 + 257 + (x2 + 1) + 1) (0, cc.1, fun _ => 0) with
              | none => rw [er, ob_no] at h; cases h
              | some r =>
                have rb := rd_b _ _ _ er
                dsimp only at rb
                rw [er, ob_n] at h
                unfold td3 at h
                by_cases z : r.2.2 256 = 0
                · rw [if_pos z] at h; cases h
                · rw [if_neg z] at h
                  by_cases ok2 : okC r.2.2 (x1 + 257) 0 ∧ okC (fun i => r.2.2 (x1 + 257 + i)) (x2 + 1) 1
                  · rw [if_pos ok2] at h
                    have e := congrArg Prod.fst (Option.some.inj h)
                    dsimp only at e
                    omega
                  · rw [if_neg ok2] at h; cases h
            · rw [if_neg ok] at h; cases h
theorem bg_bk {K : Nat → Int32} {n d k : Nat} {t t' : Nat × Nat × (Nat → Int32)} (h : bkO K n d k t = some t') : BG t t' := by
  unfold bkO at h
  by_cases k0 : k = 0
  · rw [if_pos k0] at h
    unfold sdO at h
    cases ea : rbO K n (al8 t.1) 16 with
    | none => rw [ea, ob_no] at h; cases h
    | some a =>
      obtain ⟨a1, a2⟩ := a
      have ra := rbO_s ea
      rw [ea, ob_n] at h
      dsimp only at h
      cases ec : rbO K n a2 16 with
      | none => rw [ec, ob_no] at h; cases h
      | some c =>
        obtain ⟨c1, c2⟩ := c
        have rc := rbO_s ec
        rw [ec, ob_n] at h
        dsimp only at h
        by_cases q : c1 = a1 ^^^ 65535
        · rw [if_pos q] at h
          have b := bg_sb _ _ _ h
          have b1 : c2 ≤ t'.1 := b.1
          have a8 : t.1 ≤ al8 t.1 := by unfold al8; omega
          exact ⟨by omega, b.2⟩
        · rw [if_neg q] at h; cases h
  · rw [if_neg k0] at h
    by_cases k1 : k = 1
    · rw [if_pos k1] at h
      exact bg_sm _ _ _ h
    · rw [if_neg k1] at h
      by_cases k2 : k = 2
      · rw [if_pos k2] at h
        cases et : tdO K n t.1 with
        | none => rw [et, ob_no] at h; cases h
        | some c =>
          rw [et, ob_n] at h
          have b := bg_sm _ _ _ h
          have b1 : c.1 ≤ t'.1 := b.1
          refine ⟨?_, b.2⟩
          have : t.1 ≤ c.1 := td_b et
          omega
      · rw [if_neg k2] at h; cases h
theorem bg_bl {K : Nat → Int32} {n d l : Nat} {t t' : Nat × Nat × (Nat → Int32)} (h : blO K n d t = some (l, t')) : BG t t' ∧ t.1 < t'.1 := by
  unfold blO at h
  cases e1 : rbO K n t.1 1 with
  | none => rw [e1, ob_no] at h; cases h
  | some a =>
    obtain ⟨a1, a2⟩ := a
    have r1 := rbO_s e1
    rw [e1, ob_n] at h
    dsimp only at h
    cases e2 : rbO K n a2 2 with
    | none => rw [e2, ob_no] at h; cases h
    | some c =>
      obtain ⟨c1, c2⟩ := c
      have r2 := rbO_s e2
      rw [e2, ob_n] at h
      dsimp only at h
      cases e3 : bkO K n d c1 (c2, t.2.1, t.2.2) with
      | none => rw [e3, ob_no] at h; cases h
      | some t2 =>
        rw [e3, ob_n] at h
        have e : t2 = t' := congrArg Prod.snd (Option.some.inj h)
        have b := bg_bk e3
        have b1 : c2 ≤ t2.1 := b.1
        rw [← e]
        exact ⟨⟨by omega, b.2⟩, by omega⟩
theorem bg_in {K : Nat → Int32} {n d : Nat} : ∀ (m : Nat) (t t' : Nat × Nat × (Nat → Int32)), inO K n d m t = some t' → BG t t' := by
  intro m
  induction m with
  | zero => intro t t' h; cases h
  | succ m ih =>
    intro t t' h
    rw [in_u] at h
    cases eb : blO K n d t with
    | none => rw [eb, ob_no] at h; cases h
    | some r =>
      obtain ⟨l, t1⟩ := r
      rw [eb, ob_n] at h
      dsimp only at h
      have a := (bg_bl eb).1
      by_cases q : l = 1
      · rw [if_pos q] at h
        have e : t1 = t' := Option.some.inj h
        rw [← e]; exact a
      · rw [if_neg q] at h
        have b := ih t1 t' h
        exact ⟨Nat.le_trans a.1 b.1, fun z => b.2 (a.2 z)⟩
