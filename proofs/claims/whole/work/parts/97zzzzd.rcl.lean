-- needs: 97zzzzc
/-! ===== png: all chunks ===== -/
theorem lp_go4 {α β γ δ ρ : Type} (b : α → β → γ → δ → Option ((α × β × γ × δ) ⊕ ρ)) {x x' : α} {y y' : β} {z z' : γ} {u u' : δ} (h : b x y z u = some (.inl (x', y', z', u'))) : q_lp (fun t => b t.1 t.2.1 t.2.2.1 t.2.2.2) (x, y, z, u) = q_lp (fun t => b t.1 t.2.1 t.2.2.1 t.2.2.2) (x', y', z', u') := lp_go (b := fun t : α × β × γ × δ => b t.1 t.2.1 t.2.2.1 t.2.2.2) (s := (x, y, z, u)) (s' := (x', y', z', u')) h
noncomputable def szO (I : Nat → Int32) (n p : Nat) : Option Nat := @ite _ (p + 12 ≤ n ∧ 0 ≤ (sm4 I p).toInt ∧ p + 12 + (sm4 I p).toInt.toNat ≤ n) (Classical.propDecidable _) (some (sm4 I p).toInt.toNat) none
theorem sz_s {I : Nat → Int32} {n p z : Nat} (h : szO I n p = some z) : p + 12 + z ≤ n ∧ sm4 I p = Int32.ofNat z := by
  unfold szO at h
  by_cases q : p + 12 ≤ n ∧ 0 ≤ (sm4 I p).toInt ∧ p + 12 + (sm4 I p).toInt.toNat ≤ n
  · rw [if_pos q] at h
    have e := Option.some.inj h
    rw [← e]
    exact ⟨q.2.2, n_of (by omega)⟩
  · rw [if_neg q] at h; cases h
theorem sz_n {I : Nat → Int32} {n p : Nat} (h : szO I n p = none) : ¬ (p + 12 ≤ n ∧ 0 ≤ (sm4 I p).toInt ∧ p + 12 + (sm4 I p).toInt.toNat ≤ n) := by
  intro q
  unfold szO at h
  rw [if_pos q] at h
  cases h
def crK (I : Nat → Int32) (p z : Nat) : Prop := ckV I (p + 4) (z + 4) ^^^ -1 = sm4 I (p + 8 + z)
noncomputable def rcO (I : Nat → Int32) (n : Nat) : Nat → Nat → CQ → (Nat × Nat) ⊕ CQ
  | 0, p, _ => .inl (1, p)
  | m + 1, p, Q => (szO I n p).elim (.inl (1, p)) (fun z => @ite _ (crK I p z) (Classical.propDecidable _) (Sum.elim .inl (fun Q' => if sm4 I (p + 4) = 1229278788 then (if p + 12 + z = n then @ite _ (Q'.2.2.2.1 = none ∨ (c3Q Q' ∧ Q'.2.1.1 = 0)) (Classical.propDecidable _) (.inl (4, p)) (.inr Q') else .inl (1, p + 12 + z)) else rcO I n m (p + 12 + z) Q') (tkO I p z (sm4 I (p + 4)) Q)) (.inl (2, p)))
theorem rc_u {I : Nat → Int32} {n m p : Nat} {Q : CQ} : rcO I n (m + 1) p Q = (szO I n p).elim (.inl (1, p)) (fun z => @ite _ (crK I p z) (Classical.propDecidable _) (Sum.elim .inl (fun Q' => if sm4 I (p + 4) = 1229278788 then (if p + 12 + z = n then @ite _ (Q'.2.2.2.1 = none ∨ (c3Q Q' ∧ Q'.2.1.1 = 0)) (Classical.propDecidable _) (.inl (4, p)) (.inr Q') else .inl (1, p + 12 + z)) else rcO I n m (p + 12 + z) Q') (tkO I p z (sm4 I (p + 4)) Q)) (.inl (2, p))) := rfl
theorem tk_q {I : Nat → Int32} {p z : Nat} {nm : Int32} {Q Q' : CQ} (hl : Q.2.2.2.2.2 ≤ p) (h : tkO I p z nm Q = .inr Q') : ¬ Q'.1 = none ∧ Q'.2.2.2.2.2 ≤ p + 12 + z := by
  unfold tkO at h
  by_cases hd : nm = 1229472850 ∨ Q.1 = none
  · rw [if_pos hd] at h
    by_cases ok : nm = 1229472850 ∧ Q.1 = none ∧ hdK I p z
    · rw [if_pos ok] at h
      have e := Sum.inr.inj h
      rw [← e]
      exact ⟨fun y => (by cases y), by show Q.2.2.2.2.2 ≤ _; omega⟩
    · rw [if_neg ok] at h; cases h
  · rw [if_neg hd] at h
    have q0 : ¬ Q.1 = none := fun y => hd (Or.inr y)
    by_cases nP : nm = 1347179589
    · rw [if_pos nP] at h
      by_cases ok : plK z
      · rw [if_pos ok] at h
        have e := Sum.inr.inj h
        rw [← e]
        exact ⟨q0, by show Q.2.2.2.2.2 ≤ _; omega⟩
      · rw [if_neg ok] at h; cases h
    · rw [if_neg nP] at h
      by_cases nT : nm = 1951551059
      · rw [if_pos nT] at h
        by_cases c3 : c3Q Q
        · rw [if_pos c3] at h
          by_cases ok : z ≤ Q.2.1.1
          · rw [if_pos ok] at h
            have e := Sum.inr.inj h
            rw [← e]
            exact ⟨q0, by show Q.2.2.2.2.2 ≤ _; omega⟩
          · rw [if_neg ok] at h; cases h
        · rw [if_neg c3] at h
          have e := Sum.inr.inj h
          rw [← e]
          exact ⟨q0, by omega⟩
      · rw [if_neg nT] at h
        by_cases nD : nm = 1229209940
        · rw [if_pos nD] at h
          have e := Sum.inr.inj h
          rw [← e]
          exact ⟨q0, by show Q.2.2.2.2.2 + z ≤ _; omega⟩
        · rw [if_neg nD] at h
          have e := Sum.inr.inj h
          rw [← e]
          exact ⟨q0, by omega⟩
theorem isChunk8 {s : e_S} {g : ps_G} {I : Nat → Int32} {n p : Nat} (h : DC s I n) (hp : p ≤ n) : (szO I n p = none → fX8_isChunk (e_g s g) 125 (Int32.ofNat p) = some (0, e_g (sF (sF s 125 0 (Int32.ofNat 1)) 125 1 (Int32.ofNat p)) g)) ∧ ∀ z, szO I n p = some z → (crK I p z → fX8_isChunk (e_g s g) 125 (Int32.ofNat p) = some (1, e_g s g)) ∧ (¬ crK I p z → fX8_isChunk (e_g s g) 125 (Int32.ofNat p) = some (0, e_g (sF (sF s 125 0 (Int32.ofNat 2)) 125 1 (Int32.ofNat p)) g)) := by
  have hn := h.1
  have b0 : q_bl 0 = some 0 := rfl
  have e12 : Int32.ofNat p + 12 = Int32.ofNat (p + 12) := n_add (m := 12)
  have e4 : Int32.ofNat p + 4 = Int32.ofNat (p + 4) := n_add (m := 4)
  have e8 : Int32.ofNat p + 8 = Int32.ofNat (p + 8) := n_add (m := 8)
  have z0 : (0 : Int32).toInt = 0 := by decide
  have j34 : jX8_isChunk_34 (e_g s g) 125 (Int32.ofNat p) = some (0, e_g (sF (sF s 125 0 (Int32.ofNat 1)) 125 1 (Int32.ofNat p)) g) := by
    have fa := fails8 (s := s) (g := g) (e := 1) (a := Int32.ofNat p)
    unfold jX8_isChunk_34
    rw [ob125, ob_n, fa, b2_n, b0, ob_n]
    rfl
  have pre : fX8_isChunk (e_g s g) 125 (Int32.ofNat p) = if (Int32.ofNat n < Int32.ofNat (p + 12)) ∨ (sm4 (biz I n) p < 0) then (jX8_isChunk_34 (e_g s g) 125 (Int32.ofNat p)) else (if sm4 (biz I n) p ≤ ((Int32.ofNat n - Int32.ofNat p) - (12 : Int32)) then (Option.bind (fX11_crc (e_g s g) 137 (Int32.ofNat (p + 4)) (Int32.ofNat (p + 8) + sm4 (biz I n) p)) fun v14 => Option.bind (q_ob 8 (e_g s g) 125) fun u15 => Option.bind (fX8_fourAt (e_g s g) 125 (Int32.ofNat (p + 8) + sm4 (biz I n) p)) fun v16 => if v14 = v16 then (some ((1 : Int32), e_g s g)) else (Option.bind (q_ob 8 (e_g s g) 125) fun u18 => q_b2 (fX8_fails (e_g s g) 125 (2 : Int32) (Int32.ofNat p)) fun v19 g20 => Option.bind (q_bl v19) fun v21 => some (v21, g20))) else (jX8_isChunk_34 (e_g s g) 125 (Int32.ofNat p))) := by
    unfold fX8_isChunk
    rw [ob125, ob_n, four8 h (by omega), ob_n, f125_3, h.2.2.1, ob_n, ob_n, f125_2, h.2.1, ob_n, ob_n, e12, e4, e8]
  refine ⟨fun no => ?_, fun z hz => ?_⟩
  · have q := sz_n no
    rw [pre, j34]
    by_cases c1 : (Int32.ofNat n < Int32.ofNat (p + 12)) ∨ (sm4 (biz I n) p < 0)
    · rw [if_pos c1]
    · have p12 : p + 12 ≤ n := by
        by_cases y : p + 12 ≤ n
        · exact y
        · exact absurd (Or.inl ((n_lt (by omega) (by omega)).mpr (by omega))) c1
      have eb : sm4 (biz I n) p = sm4 I p := sm4_b (by omega)
      have v0 : 0 ≤ (sm4 I p).toInt := by
        by_cases y : 0 ≤ (sm4 I p).toInt
        · exact y
        · exact absurd (Or.inr (by rw [eb, i_lt, z0]; omega)) c1
      have c2 : ¬ sm4 (biz I n) p ≤ (Int32.ofNat n - Int32.ofNat p) - 12 := by
        have es : Int32.ofNat n - Int32.ofNat p - 12 = Int32.ofNat (n - p - 12) := by
          rw [sb_n (by omega) (by omega)]
          exact sb_n (y := 12) (by omega) (by omega)
        rw [es, eb, i_le, n_int (by omega)]
        omega
      rw [if_neg c1, if_neg c2]
  · obtain ⟨s1, s2⟩ := sz_s hz
    have eb : sm4 (biz I n) p = Int32.ofNat z := (sm4_b (by omega)).trans s2
    have c1 : ¬ ((Int32.ofNat n < Int32.ofNat (p + 12)) ∨ (Int32.ofNat z < 0)) := by
      rintro (y | y)
      · have := (n_lt (by omega) (by omega)).mp y
        omega
      · exact n_neg (by omega) y
    have es : Int32.ofNat n - Int32.ofNat p - 12 = Int32.ofNat (n - p - 12) := by
      rw [sb_n (by omega) (by omega)]
      exact sb_n (y := 12) (by omega) (by omega)
    have cr := crc8 (g := g) (a := p + 4) (m := z + 4) h (by omega)
    have ea : Int32.ofNat (p + 8) + Int32.ofNat z = Int32.ofNat (p + 4 + (z + 4)) := by
      rw [n_add]
      congr 1
      omega
    have fr := four8 (g := g) (p := p + 4 + (z + 4)) h (by omega)
    rw [sm4_b (by omega), show p + 4 + (z + 4) = p + 8 + z by omega] at fr
    rw [show p + 4 + (z + 4) = p + 8 + z by omega] at ea cr
    have pre2 : fX8_isChunk (e_g s g) 125 (Int32.ofNat p) = if ckV I (p + 4) (z + 4) ^^^ -1 = sm4 I (p + 8 + z) then (some ((1 : Int32), e_g s g)) else (Option.bind (q_ob 8 (e_g s g) 125) fun u18 => q_b2 (fX8_fails (e_g s g) 125 (2 : Int32) (Int32.ofNat p)) fun v19 g20 => Option.bind (q_bl v19) fun v21 => some (v21, g20)) := by
      rw [pre, eb, if_neg c1, es, if_pos ((n_le (by omega) (by omega)).mpr (by omega)), ea, cr, ob_n, ob125, ob_n, fr, ob_n]
    rw [pre2]
    refine ⟨fun ok => if_pos ok, fun nk => ?_⟩
    have fa := fails8 (s := s) (g := g) (e := 2) (a := Int32.ofNat p)
    have nk' : ¬ ckV I (p + 4) (z + 4) ^^^ -1 = sm4 I (p + 8 + z) := nk
    rw [if_neg nk', ob125, ob_n, fa, b2_n, b0, ob_n]
    rfl
/-- the class has read all chunks -/
def RcC (s : e_S) (g : ps_G) (r : (Nat × Nat) ⊕ CQ) (f : Option (Int32 × ps_G)) (s' : e_S) : Prop := K8 s s' ∧ (∀ Q', r = .inr Q' → f = jX8_read_180 (e_g s' g) 125 ∧ QC s' Q') ∧ ∀ e a, r = .inl (e, a) → f = some (0, e_g s' g) ∧ s'.1 125 0 = Int32.ofNat e ∧ s'.1 125 1 = Int32.ofNat a
theorem rc_f {s S : e_S} {g : ps_G} {e a : Nat} (k : K8 s S) : RcC s g (.inl (e, a)) (some (0, e_g (sF (sF S 125 0 (Int32.ofNat e)) 125 1 (Int32.ofNat a)) g)) (sF (sF S 125 0 (Int32.ofNat e)) 125 1 (Int32.ofNat a)) := by
  refine ⟨k8_tr k (k8_tr (k8_F (by decide)) (k8_F (by decide))), fun Q' z => (by cases z), fun e' a' z => ?_⟩
  have z' := Sum.inl.inj z
  have e1 : e = e' := congrArg Prod.fst z'
  have e2 : a = a' := congrArg Prod.snd z'
  rw [← e1, ← e2]
  exact ⟨rfl, by rw [F_sF, if_neg (by decide), F_sF, if_pos ⟨rfl, rfl⟩], by rw [F_sF, if_pos ⟨rfl, rfl⟩]⟩
noncomputable def rdX (G : Option ((Int32 × Int32 × ps_G) ⊕ (Int32 × ps_G))) : Option (Int32 × ps_G) := Option.bind G fun s38 => Sum.elim (fun r39 => jX8_read_135 r39.2.2 125 r39.1 r39.2.1) (fun v104 => some v104) s38
theorem rc8 {g : ps_G} {I : Nat → Int32} {n : Nat} : ∀ (m p gd : Nat) (Q : CQ) (s : e_S), n < p + m → p ≤ n → gd + 8 ≤ p → DC s I n → QC s Q → Q.2.2.2.2.2 ≤ p → ∃ s', RcC s g (rcO I n m p Q) (rdX (q_lp (fun t => bX8_read_68 125 t.1 t.2.1 t.2.2.1 t.2.2.2) (Int32.ofNat p, (-1 : Int32), Int32.ofNat gd, e_g s g))) s' := by
  intro m
  induction m with
  | zero => intro p gd Q s h1 h2; omega
  | succ m ih =>
    intro p gd Q s h1 h2 h3 hD hQ hl
    have hn := hD.1
    have b0 : q_bl 0 = some 0 := rfl
    obtain ⟨i1, i2⟩ := isChunk8 (g := g) hD h2
    have c0 : ¬ ((8000 : Int32) ≤ Int32.ofNat gd ∨ (0 : Int32) ≤ -1) := by
      rintro (y | y)
      · have y' : Int32.ofNat 8000 ≤ Int32.ofNat gd := y
        have := (n_le (by omega) (by omega)).mp y'
        omega
      · exact absurd y (by decide)
    have z01 : ¬ (1 : Int32) = 0 := by decide
    rw [rc_u]
    cases ez : szO I n p with
    | none =>
      have st : bX8_read_68 125 (Int32.ofNat p) (-1) (Int32.ofNat gd) (e_g s g) = some (.inr (.inr (0, e_g (sF (sF s 125 0 (Int32.ofNat 1)) 125 1 (Int32.ofNat p)) g))) := by
        unfold bX8_read_68 jX8_read_97_68
        rw [if_neg c0, ob125, ob_n, i1 ez, b2_n, if_pos rfl]
      refine ⟨sF (sF s 125 0 (Int32.ofNat 1)) 125 1 (Int32.ofNat p), ?_⟩
      unfold rdX
      rw [lp_end (b := fun t => bX8_read_68 125 t.1 t.2.1 t.2.2.1 t.2.2.2) (s := (Int32.ofNat p, (-1 : Int32), Int32.ofNat gd, e_g s g)) st, ob_n, Sum.elim_inr]
      exact rc_f (e := 1) (a := p) k8_rf
    | some z =>
      obtain ⟨s1, s2⟩ := sz_s ez
      obtain ⟨j1, j2⟩ := i2 z ez
      show ∃ s', RcC s g (@ite _ (crK I p z) (Classical.propDecidable _) _ _) _ s'
      by_cases cr : crK I p z
      · rw [if_pos cr]
        obtain ⟨S, v, t1, t2⟩ := take8 (g := g) hD hQ s1 hl s2
        have st0 : ∀ r, (if ¬ v = 0 then (Option.bind (q_ob 8 (e_g S g) 125) fun u25 => Option.bind (fX8_fourAt (e_g S g) 125 (Int32.ofNat p + (4 : Int32))) fun v26 => Option.bind (q_ob 8 (e_g S g) 125) fun u30 => Option.bind (fX8_fourAt (e_g S g) 125 (Int32.ofNat p)) fun v31 => some (.inl (Int32.ofNat p + ((12 : Int32) + v31), (if ¬ v26 = (1229278788 : Int32) then (-1 : Int32) else Int32.ofNat p), Int32.ofNat gd + (1 : Int32), e_g S g))) else (jX8_read_97_68 (e_g S g))) = r → bX8_read_68 125 (Int32.ofNat p) (-1) (Int32.ofNat gd) (e_g s g) = r := fun r hr => by
          unfold bX8_read_68
          rw [if_neg c0, ob125, ob_n, j1 cr, b2_n, if_neg z01, ob125, ob_n, t1, b2_n, hr]
        cases et : tkO I p z (sm4 I (p + 4)) Q with
        | inl f =>
          obtain ⟨e, a⟩ := f
          rw [et] at t2
          obtain ⟨y1, y2, y3⟩ := t2.2.2 e a rfl
          have vz : ¬ ¬ v = 0 := fun y => y y1
          have st : bX8_read_68 125 (Int32.ofNat p) (-1) (Int32.ofNat gd) (e_g s g) = some (.inr (.inr (0, e_g S g))) := st0 _ (by rw [if_neg vz]; rfl)
          rw [Sum.elim_inl]
          refine ⟨S, t2.1, fun Q' z => (by cases z), fun e' a' z => ?_⟩
          have z' := Sum.inl.inj z
          have e1 : e = e' := congrArg Prod.fst z'
          have e2 : a = a' := congrArg Prod.snd z'
          rw [← e1, ← e2]
          refine ⟨?_, y2, y3⟩
          unfold rdX
          rw [lp_end (b := fun t => bX8_read_68 125 t.1 t.2.1 t.2.2.1 t.2.2.2) (s := (Int32.ofNat p, (-1 : Int32), Int32.ofNat gd, e_g s g)) st, ob_n, Sum.elim_inr]
        | inr Q' =>
          rw [et] at t2
          obtain ⟨y1, y2⟩ := t2.2.1 Q' rfl
          have vn : ¬ v = 0 := by rw [y1]; exact z01
          have dS := dc_k hD t2.1
          obtain ⟨tq1, tq2⟩ := tk_q hl et
          have e4 : Int32.ofNat p + 4 = Int32.ofNat (p + 4) := n_add (m := 4)
          have f4 := four8 (g := g) (p := p + 4) dS (by omega)
          have f0 := four8 (g := g) (p := p) dS (by omega)
          rw [sm4_b (by omega)] at f4
          rw [sm4_b (by omega), s2] at f0
          have ep : Int32.ofNat p + (12 + Int32.ofNat z) = Int32.ofNat (p + 12 + z) := by
            have e : (12 : Int32) + Int32.ofNat z = Int32.ofNat (12 + z) := n_add (n := 12)
            rw [e, n_add, Nat.add_assoc]
          have st : bX8_read_68 125 (Int32.ofNat p) (-1) (Int32.ofNat gd) (e_g s g) = some (.inl (Int32.ofNat (p + 12 + z), (if ¬ sm4 I (p + 4) = (1229278788 : Int32) then (-1 : Int32) else Int32.ofNat p), Int32.ofNat (gd + 1), e_g S g)) := st0 _ (by rw [if_pos vn, ob125, ob_n, e4, f4, ob_n, ob_n, f0, ob_n, ep, n_suc])
          rw [Sum.elim_inr]
          unfold rdX
          rw [lp_go4 (bX8_read_68 125) st]
          by_cases nE : sm4 I (p + 4) = 1229278788
          · have cl : (if ¬ sm4 I (p + 4) = (1229278788 : Int32) then (-1 : Int32) else Int32.ofNat p) = Int32.ofNat p := if_neg (fun y => y nE)
            have cp : (0 : Int32) ≤ Int32.ofNat p := show Int32.ofNat 0 ≤ _ from (n_le (by omega) (by omega)).mpr (by omega)
            have st2 : bX8_read_68 125 (Int32.ofNat (p + 12 + z)) (Int32.ofNat p) (Int32.ofNat (gd + 1)) (e_g S g) = some (.inr (.inl (Int32.ofNat (p + 12 + z), Int32.ofNat p, e_g S g))) := by
              unfold bX8_read_68
              rw [if_pos (Or.inr cp)]
            rw [if_pos nE, cl, lp_end (b := fun t => bX8_read_68 125 t.1 t.2.1 t.2.2.1 t.2.2.2) (s := (Int32.ofNat (p + 12 + z), Int32.ofNat p, Int32.ofNat (gd + 1), e_g S g)) st2, ob_n, Sum.elim_inl]
            unfold jX8_read_135
            dsimp only
            rw [f125_3, dS.2.2.1, ob_n]
            by_cases qn : p + 12 + z = n
            · have cn : Int32.ofNat (p + 12 + z) = Int32.ofNat n := by rw [qn]
              rw [if_pos qn, if_pos cn]
              obtain ⟨w1, w2, w3, w4, w5, w6⟩ := id y2
              have j172 : jX8_read_172 (e_g S g) 125 (Int32.ofNat p) = some (0, e_g (sF (sF S 125 0 (Int32.ofNat 4)) 125 1 (Int32.ofNat p)) g) := by
                have fa := fails8 (s := S) (g := g) (e := 4) (a := Int32.ofNat p)
                unfold jX8_read_172
                rw [ob125, ob_n, fa, b2_n, b0, ob_n]
                rfl
              rw [f125_11, ob_n]
              rcases w4 with ⟨a1, a2⟩ | ⟨a, a1, a2, a3⟩
              · have cm : (-1 : Int32) < 0 := by decide
                rw [a2, if_pos cm, if_pos (Or.inl a1), j172]
                exact ⟨_, rc_f (e := 4) (a := p) t2.1⟩
              · have ca : ¬ Int32.ofNat a < 0 := n_neg (by omega)
                rw [a3, if_neg ca, f125_6, ob_n]
                obtain ⟨c, w, h', x1, x2, x3, x4, x5, x6, x7⟩ : ∃ c w h', Q'.1 = some (c, w, h') ∧ c < 7 ∧ (1 ≤ w ∧ w ≤ 24) ∧ (1 ≤ h' ∧ h' ≤ 24) ∧ S.1 125 6 = Int32.ofNat c ∧ S.1 125 4 = Int32.ofNat w ∧ S.1 125 5 = Int32.ofNat h' := w1.elim (fun y => absurd y.1 tq1) id
                have c3 : Int32.ofNat c = (3 : Int32) ↔ c = 3 := n_eq (b := 3) (by omega) (by omega)
                have ok : ¬ (Q'.2.2.2.1 = none ∨ (c3Q Q' ∧ Q'.2.1.1 = 0)) → RcC s g (.inr Q') (jX8_read_180 (e_g S g) 125) S := fun _ => ⟨t2.1, fun Q2 z => by
                  have e : Q' = Q2 := Sum.inr.inj z
                  rw [← e]; exact ⟨rfl, y2⟩, fun e' a' z => (by cases z)⟩
                have nn : ¬ Q'.2.2.2.1 = none := fun y => by rw [a1] at y; cases y
                rw [x5]
                by_cases qc : c = 3
                · have nc : ¬ ¬ Int32.ofNat c = (3 : Int32) := fun y => y (c3.mpr qc)
                  have c3q : c3Q Q' := ⟨w, h', by rw [x1, qc]⟩
                  rw [if_neg nc, f125_8, w2.2.1, ob_n]
                  have w21 := w2.1
                  by_cases pm : Q'.2.1.1 = 0
                  · have c00 : ¬ (0 : Int32) < Int32.ofNat Q'.2.1.1 := by rw [pm]; decide
                    rw [if_neg c00, if_pos (Or.inr ⟨c3q, pm⟩), j172]
                    exact ⟨_, rc_f (e := 4) (a := p) t2.1⟩
                  · have c00 : (0 : Int32) < Int32.ofNat Q'.2.1.1 := show Int32.ofNat 0 < _ from (n_lt (by omega) (by omega)).mpr (by omega)
                    have no : ¬ (Q'.2.2.2.1 = none ∨ (c3Q Q' ∧ Q'.2.1.1 = 0)) := fun y => y.elim nn (fun y => pm y.2)
                    rw [if_pos c00, if_neg no]
                    exact ⟨S, ok no⟩
                · have nc : ¬ Int32.ofNat c = (3 : Int32) := fun y => qc (c3.mp y)
                  have no : ¬ (Q'.2.2.2.1 = none ∨ (c3Q Q' ∧ Q'.2.1.1 = 0)) := fun y => y.elim nn (fun y => by
                    obtain ⟨w', h'', y'⟩ := y.1
                    rw [x1] at y'
                    exact qc (congrArg Prod.fst (Option.some.inj y')))
                  rw [if_pos nc, if_neg no]
                  exact ⟨S, ok no⟩
            · have cn : ¬ Int32.ofNat (p + 12 + z) = Int32.ofNat n := fun y => qn ((n_eq (by omega) (by omega)).mp y)
              have fa := fails8 (s := S) (g := g) (e := 1) (a := Int32.ofNat (p + 12 + z))
              rw [if_neg qn, if_neg cn, ob125, ob_n, fa, b2_n, b0, ob_n]
              exact ⟨_, rc_f (e := 1) (a := p + 12 + z) t2.1⟩
          · have cl : (if ¬ sm4 I (p + 4) = (1229278788 : Int32) then (-1 : Int32) else Int32.ofNat p) = -1 := if_pos nE
            rw [if_neg nE, cl]
            obtain ⟨s', x1, x2, x3⟩ := ih (p + 12 + z) (gd + 1) Q' S (by omega) s1 (by omega) dS y2 tq2
            exact ⟨s', k8_tr t2.1 x1, x2, x3⟩
      · have st : bX8_read_68 125 (Int32.ofNat p) (-1) (Int32.ofNat gd) (e_g s g) = some (.inr (.inr (0, e_g (sF (sF s 125 0 (Int32.ofNat 2)) 125 1 (Int32.ofNat p)) g))) := by
          unfold bX8_read_68 jX8_read_97_68
          rw [if_neg c0, ob125, ob_n, j2 cr, b2_n, if_pos rfl]
        rw [if_neg cr]
        refine ⟨sF (sF s 125 0 (Int32.ofNat 2)) 125 1 (Int32.ofNat p), ?_⟩
        unfold rdX
        rw [lp_end (b := fun t => bX8_read_68 125 t.1 t.2.1 t.2.2.1 t.2.2.2) (s := (Int32.ofNat p, (-1 : Int32), Int32.ofNat gd, e_g s g)) st, ob_n, Sum.elim_inr]
        exact rc_f (e := 2) (a := p) k8_rf
