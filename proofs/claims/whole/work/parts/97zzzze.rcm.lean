-- needs: 97zzzzd
/-! ===== png: all chunks by the reference ===== -/
theorem wrong12p {s : e_S} {g : ps_G} {e p : Int32} (h : ¬ s.1 139 4 ≤ 0) : fX12_wrong (e_g s g) 139 e p = some (e_g s g) := by
  unfold fX12_wrong
  rw [f139_4, ob_n, if_neg h]
theorem k10_tr {s s' s'' : e_S} (h : K10 s s') (h' : K10 s' s'') : K10 s s'' := kp_tr h h'
theorem dm_10 {s s' : e_S} {I : Nat → Int32} {n : Nat} (h : DM s I n) (k : K10 s s') : DM s' I n := by
  unfold DM at h ⊢
  rw [k.2.1 139 3 (by decide), k.1 140 (by decide)]
  exact h
theorem rc12 {g : ps_G} {I : Nat → Int32} {n : Nat} : ∀ (m p : Nat) (fs : Int32) (Q : CQ) (s : e_S), n < p + m → p ≤ n → DM s I n → QM s Q → s.1 139 4 = 0 → ((fs = 1 ∧ Q.1 = none) ∨ (fs = 0 ∧ ¬ Q.1 = none)) → Q.2.2.2.2.2 ≤ p → ∃ r s', q_lp (fun t => bX12_readChunks_92 139 t.1 t.2.1 t.2.2) (Int32.ofNat p, fs, e_g s g) = some r ∧ Sum.elim (fun a => a) (fun a => a) r = e_g s' g ∧ TkM s (rcO I n m p Q) s' := by
  intro m
  induction m with
  | zero => intro p fs Q s h1 h2; omega
  | succ m ih =>
    intro p fs Q s h1 h2 hD hQ h4 hf hl
    have hn := hD.1
    have z0 : (0 : Int32).toInt = 0 := by decide
    have z00 : ¬ ¬ (0 : Int32) = 0 := fun y => y rfl
    have es : Int32.ofNat n - Int32.ofNat p = Int32.ofNat (n - p) := sb_n (by omega) (by omega)
    have j135 : jX12_readChunks_135_92 (e_g s g) 139 (Int32.ofNat p) = some (.inr (.inr (e_g (sF (sF s 139 4 (Int32.ofNat 1)) 139 5 (Int32.ofNat p)) g))) := by
      unfold jX12_readChunks_135_92
      rw [ob139, ob_n, wrong12 h4, ob_n]
      rfl
    rw [rc_u]
    cases ez : szO I n p with
    | none =>
      have q := sz_n ez
      have st : bX12_readChunks_92 139 (Int32.ofNat p) fs (e_g s g) = some (.inr (.inr (e_g (sF (sF s 139 4 (Int32.ofNat 1)) 139 5 (Int32.ofNat p)) g))) := by
        unfold bX12_readChunks_92
        rw [f139_4, h4, ob_n, if_neg z00, f139_3, hD.2.1, ob_n, es, j135]
        have c12 : Int32.ofNat (n - p) < (12 : Int32) ↔ n - p < 12 := n_lt (m := 12) (by omega) (by omega)
        by_cases c1 : n - p < 12
        · rw [if_pos (c12.mpr c1)]
        · rw [if_neg (fun y => c1 (c12.mp y)), ob139, ob_n, word12 hD (by omega), ob_n]
          by_cases c2 : sm4 I p < 0
          · rw [if_pos c2]
          · have v0 : 0 ≤ (sm4 I p).toInt := by rw [i_lt, z0] at c2; omega
            have c3 : ¬ sm4 I p ≤ Int32.ofNat (n - p) - 12 := by
              have es2 : Int32.ofNat (n - p) - 12 = Int32.ofNat (n - p - 12) := sb_n (y := 12) (by omega) (by omega)
              rw [es2, i_le, n_int (by omega)]
              omega
            rw [if_neg c2, ob_n, ob_n, ob_n, es, if_neg c3]
      exact ⟨_, _, lp_end (b := fun t => bX12_readChunks_92 139 t.1 t.2.1 t.2.2) (s := (Int32.ofNat p, fs, e_g s g)) st, rfl, tm_f (e := 1) (a := p) kp_rf⟩
    | some z =>
      obtain ⟨s1, s2⟩ := sz_s ez
      have w0 := word12 (g := g) (p := p) hD (by omega)
      rw [s2] at w0
      have c12 : ¬ Int32.ofNat (n - p) < (12 : Int32) := fun y => by
        have y' : Int32.ofNat (n - p) < Int32.ofNat 12 := y
        have := (n_lt (by omega) (by omega)).mp y'
        omega
      have cz : ¬ Int32.ofNat z < 0 := n_neg (by omega)
      have c3 : Int32.ofNat z ≤ Int32.ofNat (n - p) - 12 := by
        have es2 : Int32.ofNat (n - p) - 12 = Int32.ofNat (n - p - 12) := sb_n (y := 12) (by omega) (by omega)
        rw [es2]
        exact (n_le (by omega) (by omega)).mpr (by omega)
      have e4 : Int32.ofNat p + 4 = Int32.ofNat (p + 4) := n_add (m := 4)
      have e8 : Int32.ofNat p + 8 + Int32.ofNat z = Int32.ofNat (p + 8 + z) := by
        have e : Int32.ofNat p + 8 = Int32.ofNat (p + 8) := n_add (m := 8)
        rw [e, n_add]
      have cr := crcM (g := g) (p := p) (z := z) (x3 := fs) hD (by omega)
      have wc := word12 (g := g) (p := p + 8 + z) hD (by omega)
      have wn := word12 (g := g) (p := p + 4) hD (by omega)
      show ∃ r s', _ ∧ _ ∧ TkM s (@ite _ (crK I p z) (Classical.propDecidable _) _ _) s'
      by_cases ck : crK I p z
      · have ck' : ckV I (p + 4) (z + 4) ^^^ -1 = sm4 I (p + 8 + z) := ck
        obtain ⟨S, t1, t2⟩ := take12 (g := g) (nm := sm4 I (p + 4)) hD hQ h4 s1 hl hf
        have st : bX12_readChunks_92 139 (Int32.ofNat p) fs (e_g s g) = jX12_readChunks_299_92 (e_g S g) 139 (Int32.ofNat p) (Int32.ofNat z) (sm4 I (p + 4)) := by
          rw [← t1]
          unfold bX12_readChunks_92
          rw [f139_4, h4, ob_n, if_neg z00, f139_3, hD.2.1, ob_n, es, if_neg c12, ob139, ob_n, w0, ob_n, if_neg cz, ob_n, ob_n, ob_n, es, if_pos c3, ob_n, ob_n, e4, cr, ob_n, ob_n, e8, wc, ob_n, if_pos ck', ob_n, wn, ob_n]
        have ep : Int32.ofNat p + (12 + Int32.ofNat z) = Int32.ofNat (p + 12 + z) := by
          have e : (12 : Int32) + Int32.ofNat z = Int32.ofNat (12 + z) := n_add (n := 12)
          rw [e, n_add, Nat.add_assoc]
        have ep2 : Int32.ofNat p + 12 + Int32.ofNat z = Int32.ofNat (p + 12 + z) := by
          have e : Int32.ofNat p + 12 = Int32.ofNat (p + 12) := n_add (m := 12)
          rw [e, n_add]
        rw [if_pos ck]
        cases et : tkO I p z (sm4 I (p + 4)) Q with
        | inl f =>
          obtain ⟨e, a⟩ := f
          rw [et] at t2
          obtain ⟨y1, y2⟩ := t2.2.2 e a rfl
          rw [Sum.elim_inl]
          have e07 : 1 ≤ e ∧ e < 100 := by
            have w := et
            unfold tkO at w
            by_cases hd : sm4 I (p + 4) = 1229472850 ∨ Q.1 = none
            · rw [if_pos hd] at w
              by_cases ok : sm4 I (p + 4) = 1229472850 ∧ Q.1 = none ∧ hdK I p z
              · rw [if_pos ok] at w; cases w
              · rw [if_neg ok] at w
                have := congrArg Prod.fst (Sum.inl.inj w)
                have w' : 3 = e := this
                omega
            · rw [if_neg hd] at w
              by_cases nP : sm4 I (p + 4) = 1347179589
              · rw [if_pos nP] at w
                by_cases ok : plK z
                · rw [if_pos ok] at w; cases w
                · rw [if_neg ok] at w
                  have := congrArg Prod.fst (Sum.inl.inj w)
                  have w' : 4 = e := this
                  omega
              · rw [if_neg nP] at w
                by_cases nT : sm4 I (p + 4) = 1951551059
                · rw [if_pos nT] at w
                  by_cases c3 : c3Q Q
                  · rw [if_pos c3] at w
                    by_cases ok : z ≤ Q.2.1.1
                    · rw [if_pos ok] at w; cases w
                    · rw [if_neg ok] at w
                      have := congrArg Prod.fst (Sum.inl.inj w)
                      have w' : 4 = e := this
                      omega
                  · rw [if_neg c3] at w; cases w
                · rw [if_neg nT] at w
                  by_cases nD : sm4 I (p + 4) = 1229209940
                  · rw [if_pos nD] at w; cases w
                  · rw [if_neg nD] at w; cases w
          have ne : ¬ Int32.ofNat e = 0 := fun y => by
            have := (n_eq (b := 0) (by omega) (by omega)).mp y
            omega
          have st2 : jX12_readChunks_299_92 (e_g S g) 139 (Int32.ofNat p) (Int32.ofNat z) (sm4 I (p + 4)) = some (.inl (Int32.ofNat (p + 12 + z), 0, e_g S g)) := by
            unfold jX12_readChunks_299_92
            rw [f139_4, y1, ob_n, if_pos (Or.inl ne), ep]
          rw [st2] at st
          have st3 : bX12_readChunks_92 139 (Int32.ofNat (p + 12 + z)) 0 (e_g S g) = some (.inr (.inl (e_g S g))) := by
            unfold bX12_readChunks_92
            rw [f139_4, y1, ob_n, if_pos ne]
          refine ⟨.inl (e_g S g), S, ?_, rfl, t2⟩
          rw [lp_go3 (bX12_readChunks_92 139) st]
          exact lp_end (b := fun t => bX12_readChunks_92 139 t.1 t.2.1 t.2.2) (s := (Int32.ofNat (p + 12 + z), (0 : Int32), e_g S g)) st3
        | inr Q' =>
          rw [et] at t2
          obtain ⟨y1, y5, y2⟩ := t2.2.1 Q' rfl
          obtain ⟨tq1, tq2⟩ := tk_q hl et
          have dS := dm_10 hD t2.1
          rw [Sum.elim_inr]
          by_cases nE : sm4 I (p + 4) = 1229278788
          · have cE : ¬ ((¬ (0 : Int32) = 0) ∨ (¬ sm4 I (p + 4) = (1229278788 : Int32))) := by
              rintro (y | y)
              · exact y rfl
              · exact y nE
            rw [if_pos nE]
            obtain ⟨w1, w2, w3, w4, w5, w6⟩ := id y2
            by_cases qn : p + 12 + z = n
            · have cn : Int32.ofNat n ≤ Int32.ofNat (p + 12 + z) := (n_le (by omega) (by omega)).mpr (by omega)
              have st2 : jX12_readChunks_299_92 (e_g S g) 139 (Int32.ofNat p) (Int32.ofNat z) (sm4 I (p + 4)) = jX12_readChunks_340_92 (e_g S g) 139 (Int32.ofNat p) := by
                unfold jX12_readChunks_299_92
                rw [f139_4, y1, ob_n, if_neg cE, f139_3, dS.2.1, ob_n, ep2, if_pos cn]
              rw [st2] at st
              rw [if_pos qn]
              have j362 : jX12_readChunks_362_92 (e_g S g) 139 (Int32.ofNat p) = some (.inr (.inr (e_g (sF (sF S 139 4 (Int32.ofNat 4)) 139 5 (Int32.ofNat p)) g))) := by
                unfold jX12_readChunks_362_92 jX12_readChunks_368_92
                rw [ob139, ob_n, wrong12 y1, ob_n]
                rfl
              have bad : (Q'.2.2.2.1 = none ∨ (c3Q Q' ∧ Q'.2.1.1 = 0)) → jX12_readChunks_340_92 (e_g S g) 139 (Int32.ofNat p) = jX12_readChunks_362_92 (e_g S g) 139 (Int32.ofNat p) → ∃ r s', q_lp (fun t => bX12_readChunks_92 139 t.1 t.2.1 t.2.2) (Int32.ofNat p, fs, e_g s g) = some r ∧ Sum.elim (fun a => a) (fun a => a) r = e_g s' g ∧ TkM s (@ite _ (Q'.2.2.2.1 = none ∨ (c3Q Q' ∧ Q'.2.1.1 = 0)) (Classical.propDecidable _) (.inl (4, p)) (.inr Q')) s' := fun hb hj => by
                rw [if_pos hb]
                rw [hj, j362] at st
                exact ⟨_, _, lp_end (b := fun t => bX12_readChunks_92 139 t.1 t.2.1 t.2.2) (s := (Int32.ofNat p, fs, e_g s g)) st, rfl, tm_f (e := 4) (a := p) t2.1⟩
              have good : ¬ (Q'.2.2.2.1 = none ∨ (c3Q Q' ∧ Q'.2.1.1 = 0)) → jX12_readChunks_340_92 (e_g S g) 139 (Int32.ofNat p) = some (.inr (.inr (e_g S g))) → ∃ r s', q_lp (fun t => bX12_readChunks_92 139 t.1 t.2.1 t.2.2) (Int32.ofNat p, fs, e_g s g) = some r ∧ Sum.elim (fun a => a) (fun a => a) r = e_g s' g ∧ TkM s (@ite _ (Q'.2.2.2.1 = none ∨ (c3Q Q' ∧ Q'.2.1.1 = 0)) (Classical.propDecidable _) (.inl (4, p)) (.inr Q')) s' := fun hb hj => by
                rw [if_neg hb]
                rw [hj] at st
                exact ⟨_, S, lp_end (b := fun t => bX12_readChunks_92 139 t.1 t.2.1 t.2.2) (s := (Int32.ofNat p, fs, e_g s g)) st, rfl, t2⟩
              rcases w4 with ⟨a1, a2⟩ | ⟨a, a1, a2, a3⟩
              · have cm : (-1 : Int32) < 0 := by decide
                refine bad (Or.inl a1) ?_
                unfold jX12_readChunks_340_92
                rw [f139_86, a2, ob_n, if_pos cm]
              · have ca : ¬ Int32.ofNat a < 0 := n_neg (by omega)
                obtain ⟨c, w, h', x1, x2, x3, x4, x5, x6, x7⟩ : ∃ c w h', Q'.1 = some (c, w, h') ∧ c < 7 ∧ (1 ≤ w ∧ w ≤ 24) ∧ (1 ≤ h' ∧ h' ≤ 24) ∧ S.1 139 85 = Int32.ofNat c ∧ S.1 139 83 = Int32.ofNat w ∧ S.1 139 84 = Int32.ofNat h' := w1.elim (fun y => absurd y tq1) id
                have c3' : Int32.ofNat c = (3 : Int32) ↔ c = 3 := n_eq (b := 3) (by omega) (by omega)
                have nn : ¬ Q'.2.2.2.1 = none := fun y => by rw [a1] at y; cases y
                have w21 := w2.1
                by_cases qc : c = 3
                · have nc : ¬ ¬ Int32.ofNat c = (3 : Int32) := fun y => y (c3'.mpr qc)
                  have c3q : c3Q Q' := ⟨w, h', by rw [x1, qc]⟩
                  have cz2 : Int32.ofNat Q'.2.1.1 = 0 ↔ Q'.2.1.1 = 0 := n_eq (b := 0) (by omega) (by omega)
                  by_cases pm : Q'.2.1.1 = 0
                  · have nz : ¬ ¬ Int32.ofNat Q'.2.1.1 = 0 := fun y => y (cz2.mpr pm)
                    refine bad (Or.inr ⟨c3q, pm⟩) ?_
                    unfold jX12_readChunks_340_92
                    rw [f139_86, a3, ob_n, if_neg ca, f139_85, x5, ob_n, if_neg nc, f139_82, w2.2.1, ob_n, if_neg nz]
                  · have nz : ¬ Int32.ofNat Q'.2.1.1 = 0 := fun y => pm (cz2.mp y)
                    refine good (fun y => y.elim nn (fun y => pm y.2)) ?_
                    unfold jX12_readChunks_340_92 jX12_readChunks_368_92
                    rw [f139_86, a3, ob_n, if_neg ca, f139_85, x5, ob_n, if_neg nc, f139_82, w2.2.1, ob_n, if_pos nz]
                · have nc : ¬ Int32.ofNat c = (3 : Int32) := fun y => qc (c3'.mp y)
                  refine good (fun y => y.elim nn (fun y => by
                    obtain ⟨w', h'', y'⟩ := y.1
                    rw [x1] at y'
                    exact qc (congrArg Prod.fst (Option.some.inj y')))) ?_
                  unfold jX12_readChunks_340_92 jX12_readChunks_368_92
                  rw [f139_86, a3, ob_n, if_neg ca, f139_85, x5, ob_n, if_pos nc]
            · have cn : ¬ Int32.ofNat n ≤ Int32.ofNat (p + 12 + z) := nle (by omega) (by omega)
              rw [if_neg qn]
              have W1 : (sF (sF S 139 4 (Int32.ofNat 1)) 139 5 (Int32.ofNat (p + 12 + z))).1 139 4 = Int32.ofNat 1 := by rw [F_sF, if_neg (by decide), F_sF, if_pos ⟨rfl, rfl⟩]
              have wp : ∀ e a : Int32, fX12_wrong (e_g (sF (sF S 139 4 (Int32.ofNat 1)) 139 5 (Int32.ofNat (p + 12 + z))) g) 139 e a = some (e_g (sF (sF S 139 4 (Int32.ofNat 1)) 139 5 (Int32.ofNat (p + 12 + z))) g) := fun e a => wrong12p (by rw [W1]; decide)
              have w1' : fX12_wrong (e_g S g) 139 1 (Int32.ofNat (p + 12 + z)) = some (e_g (sF (sF S 139 4 (Int32.ofNat 1)) 139 5 (Int32.ofNat (p + 12 + z))) g) := wrong12 y1
              have tf := tm_f (s := s) (S := S) (e := 1) (a := p + 12 + z) t2.1
              have st2 : jX12_readChunks_299_92 (e_g S g) 139 (Int32.ofNat p) (Int32.ofNat z) (sm4 I (p + 4)) = some (.inr (.inr (e_g (sF (sF S 139 4 (Int32.ofNat 1)) 139 5 (Int32.ofNat (p + 12 + z))) g))) := by
                unfold jX12_readChunks_299_92
                rw [f139_4, y1, ob_n, if_neg cE, f139_3, dS.2.1, ob_n, ep2, if_neg cn, ob139, ob_n, w1', ob_n]
                generalize sF (sF S 139 4 (Int32.ofNat 1)) 139 5 (Int32.ofNat (p + 12 + z)) = X at wp
                have j368 : jX12_readChunks_368_92 (e_g X g) = some (.inr (.inr (e_g X g))) := rfl
                have j362 : jX12_readChunks_362_92 (e_g X g) 139 (Int32.ofNat p) = some (.inr (.inr (e_g X g))) := by
                  unfold jX12_readChunks_362_92
                  rw [ob139, ob_n, wp, ob_n, j368]
                unfold jX12_readChunks_340_92
                rw [f139_86, ob_n, f139_85, ob_n, f139_82, ob_n, j362, j368]
                by_cases k1 : X.1 139 86 < 0
                · rw [if_pos k1]
                · rw [if_neg k1]
                  by_cases k2 : ¬ X.1 139 85 = (3 : Int32)
                  · rw [if_pos k2]
                  · rw [if_neg k2]
                    by_cases k3 : ¬ X.1 139 82 = 0
                    · rw [if_pos k3]
                    · rw [if_neg k3]
              rw [st2] at st
              exact ⟨_, _, lp_end (b := fun t => bX12_readChunks_92 139 t.1 t.2.1 t.2.2) (s := (Int32.ofNat p, fs, e_g s g)) st, rfl, tf⟩
          · have st2 : jX12_readChunks_299_92 (e_g S g) 139 (Int32.ofNat p) (Int32.ofNat z) (sm4 I (p + 4)) = some (.inl (Int32.ofNat (p + 12 + z), 0, e_g S g)) := by
              unfold jX12_readChunks_299_92
              rw [f139_4, y1, ob_n, if_pos (Or.inr nE), ep]
            rw [st2] at st
            rw [if_neg nE]
            obtain ⟨r, s', x1, x2, x3⟩ := ih (p + 12 + z) 0 Q' S (by omega) s1 dS y2 y1 (Or.inr ⟨rfl, tq1⟩) tq2
            refine ⟨r, s', ?_, x2, k10_tr t2.1 x3.1, fun Q2 z => ?_, x3.2.2⟩
            · rw [lp_go3 (bX12_readChunks_92 139) st]
              exact x1
            · obtain ⟨v1, v2, v3⟩ := x3.2.1 Q2 z
              exact ⟨v1, v2.trans y5, v3⟩
      · have nk : ¬ ckV I (p + 4) (z + 4) ^^^ -1 = sm4 I (p + 8 + z) := ck
        have st : bX12_readChunks_92 139 (Int32.ofNat p) fs (e_g s g) = some (.inr (.inr (e_g (sF (sF s 139 4 (Int32.ofNat 2)) 139 5 (Int32.ofNat p)) g))) := by
          unfold bX12_readChunks_92
          rw [f139_4, h4, ob_n, if_neg z00, f139_3, hD.2.1, ob_n, es, if_neg c12, ob139, ob_n, w0, ob_n, if_neg cz, ob_n, ob_n, ob_n, es, if_pos c3, ob_n, ob_n, e4, cr, ob_n, ob_n, e8, wc, ob_n, if_neg nk, ob_n, wrong12 h4, ob_n]
          rfl
        rw [if_neg ck]
        exact ⟨_, _, lp_end (b := fun t => bX12_readChunks_92 139 t.1 t.2.1 t.2.2) (s := (Int32.ofNat p, fs, e_g s g)) st, rfl, tm_f (e := 2) (a := p) kp_rf⟩
