-- needs: 97zzzza
/-! ===== png: one chunk taken ===== -/
def c3Q (Q : CQ) : Prop := ∃ w h, Q.1 = some (3, w, h)
noncomputable def tkO (I : Nat → Int32) (p z : Nat) (nm : Int32) (Q : CQ) : (Nat × Nat) ⊕ CQ := @ite _ (nm = 1229472850 ∨ Q.1 = none) (Classical.propDecidable _) (@ite _ (nm = 1229472850 ∧ Q.1 = none ∧ hdK I p z) (Classical.propDecidable _) (.inr (some (hdQ I p), Q.2)) (.inl (3, p))) (if nm = 1347179589 then @ite _ (plK z) (Classical.propDecidable _) (.inr (Q.1, (z / 3, pltV I (p + 8)), Q.2.2)) (.inl (4, p)) else if nm = 1951551059 then @ite _ (c3Q Q) (Classical.propDecidable _) (if z ≤ Q.2.1.1 then .inr (Q.1, Q.2.1, (z, fun i => I (p + 8 + i)), Q.2.2.2) else .inl (4, p)) (.inr Q) else if nm = 1229209940 then .inr (Q.1, Q.2.1, Q.2.2.1, some (Q.2.2.2.1.getD p), (pkV I (p + 8) Q.2.2.2.2.2 Q.2.2.2.2.1, Q.2.2.2.2.2 + z)) else .inr Q)
theorem fails8 {s : e_S} {g : ps_G} {e a : Int32} : fX8_fails (e_g s g) 125 e a = some (0, e_g (sF (sF s 125 0 e) 125 1 a) g) := by
  unfold fX8_fails
  rw [w125_0, ob_n, w125_1, ob_n]
def TkC (s : e_S) (r : (Nat × Nat) ⊕ CQ) (v : Int32) (s' : e_S) : Prop := K8 s s' ∧ (∀ Q', r = .inr Q' → v = 1 ∧ QC s' Q') ∧ ∀ e a, r = .inl (e, a) → v = 0 ∧ s'.1 125 0 = Int32.ofNat e ∧ s'.1 125 1 = Int32.ofNat a
theorem tk_f {s S : e_S} {e a : Nat} (k : K8 s S) : TkC s (.inl (e, a)) 0 (sF (sF S 125 0 (Int32.ofNat e)) 125 1 (Int32.ofNat a)) := by
  refine ⟨k8_tr k (k8_tr (k8_F (by decide)) (k8_F (by decide))), fun Q' z => (by cases z), fun e' a' z => ?_⟩
  have z' := Sum.inl.inj z
  have e1 : e = e' := congrArg Prod.fst z'
  have e2 : a = a' := congrArg Prod.snd z'
  rw [← e1, ← e2]
  exact ⟨rfl, by rw [F_sF, if_neg (by decide), F_sF, if_pos ⟨rfl, rfl⟩], by rw [F_sF, if_pos ⟨rfl, rfl⟩]⟩
theorem tk_o {s S : e_S} {Q : CQ} (k : K8 s S) (h : QC S Q) : TkC s (.inr Q) 1 S := by
  refine ⟨k, fun Q' z => ?_, fun e' a' z => (by cases z)⟩
  have e : Q = Q' := Sum.inr.inj z
  rw [← e]
  exact ⟨rfl, h⟩
theorem take8 {s : e_S} {g : ps_G} {I : Nat → Int32} {n p z : Nat} {Q : CQ} (h : DC s I n) (hQ : QC s Q) (hp : p + 12 + z ≤ n) (hl : Q.2.2.2.2.2 ≤ p) (hz : sm4 I p = Int32.ofNat z) : ∃ s' v, fX8_takeChunk (e_g s g) 125 (Int32.ofNat p) = some (v, e_g s' g) ∧ TkC s (tkO I p z (sm4 I (p + 4)) Q) v s' := by
  have hn := h.1
  have b0 : q_bl 0 = some 0 := rfl
  have b1 : q_bl 1 = some 1 := rfl
  have e4 : Int32.ofNat p + 4 = Int32.ofNat (p + 4) := n_add (m := 4)
  have e8 : Int32.ofNat p + 8 = Int32.ofNat (p + 8) := n_add (m := 8)
  have r0 := four8 (g := g) (p := p) h (by omega)
  have r4 := four8 (g := g) (p := p + 4) h (by omega)
  rw [sm4_b (by omega), hz] at r0
  rw [sm4_b (by omega)] at r4
  generalize hnm : sm4 I (p + 4) = nm at r4
  obtain ⟨q1, q2, q3, q4, q5, q6⟩ := id hQ
  have no : Q.1 = none → s.1 125 6 = -1 := fun y => by
    rcases q1 with ⟨-, y2⟩ | ⟨c, w, h', y1, -⟩
    · exact y2
    · rw [y] at y1; cases y1
  have yes : ¬ Q.1 = none → ∃ c w h', Q.1 = some (c, w, h') ∧ c < 7 ∧ s.1 125 6 = Int32.ofNat c := fun y => by
    rcases q1 with ⟨y1, -⟩ | ⟨c, w, h', y1, y2, -, -, y3, -⟩
    · exact absurd y1 y
    · exact ⟨c, w, h', y1, y2, y3⟩
  have fl : ∀ e a : Nat, ∀ S : e_S, K8 s S → q_b2 (fX8_fails (e_g S g) 125 (Int32.ofNat e) (Int32.ofNat a)) (fun v88 g89 => Option.bind (q_bl v88) fun v90 => some (v90, g89)) = some (0, e_g (sF (sF S 125 0 (Int32.ofNat e)) 125 1 (Int32.ofNat a)) g) := fun e a S k => by
    rw [fails8, b2_n, b0, ob_n]
  by_cases nI : nm = 1229472850
  · have cB : (if ¬ nm = (1229472850 : Int32) then (0 : Int32) else (1 : Int32)) = 1 := if_neg (fun y => y nI)
    have nI' : ¬ ¬ nm = (1229472850 : Int32) := fun y => y nI
    by_cases q0 : Q.1 = none
    · -- the header
      have cA : (if (0 : Int32) ≤ s.1 125 6 then (0 : Int32) else (1 : Int32)) = 1 := by rw [no q0]; decide
      obtain ⟨S, v, t1, t2, t3, t4⟩ := takeHeader8 (g := g) h hp
      have pre : fX8_takeChunk (e_g s g) 125 (Int32.ofNat p) = if ¬ v = 0 then (jX8_takeChunk_74 (e_g S g)) else (Option.bind (q_ob 8 (e_g S g) 125) fun u77 => q_b2 (fX8_fails (e_g S g) 125 (3 : Int32) (Int32.ofNat p)) fun v78 g79 => if v78 = 0 then (jX8_takeChunk_79 g79 (0 : Int32)) else (jX8_takeChunk_74 g79)) := by
        unfold fX8_takeChunk
        rw [ob125, ob_n, r0, ob_n, ob_n, e4, r4, ob_n, f125_6, ob_n, cA, cB, if_pos rfl, if_neg nI', ob_n, e8, t1, b2_n]
      rw [pre]
      by_cases ok : hdK I p z
      · obtain ⟨v1, g6, g4, g5, gk, gA, gl⟩ := t3 ok
        have u : tkO I p z nm Q = .inr (some (hdQ I p), Q.2) := by
          unfold tkO
          rw [if_pos (Or.inl nI), if_pos ⟨nI, q0, ok⟩]
        have vn : ¬ v = 0 := by rw [v1]; decide
        rw [u, if_pos vn]
        refine ⟨S, 1, ?_, tk_o t2 ?_⟩
        · unfold jX8_takeChunk_74 jX8_takeChunk_79
          rw [b1, ob_n]
        · obtain ⟨c, w, h', y1, y2, y3, y4, y5, y6, y7⟩ := hd_q ok
          refine ⟨Or.inr ⟨c, w, h', by rw [y1], y2, y3, y4, g6.trans y5, g4.trans y6, g5.trans y7⟩, ?_, ?_, ?_, gl.trans q5, ?_⟩
          · rw [gk 8 (by omega), gA]; exact q2
          · rw [gk 10 (by omega), gA]; exact q3
          · rw [gk 11 (by omega)]; exact q4
          · rw [gA]; exact q6
      · have u : tkO I p z nm Q = .inl (3, p) := by
          unfold tkO
          rw [if_pos (Or.inl nI), if_neg (fun y => ok y.2.2)]
        have vz : ¬ ¬ v = 0 := fun y => y (t4 ok)
        have fa := fails8 (s := S) (g := g) (e := 3) (a := Int32.ofNat p)
        rw [u, if_neg vz, ob125, ob_n, fa, b2_n, if_pos rfl]
        refine ⟨_, 0, ?_, tk_f (e := 3) (a := p) t2⟩
        unfold jX8_takeChunk_79
        rw [b0, ob_n]
        rfl
    · -- a second header
      obtain ⟨c, w, h', y1, y2, y3⟩ := yes q0
      have c5 : (0 : Int32) ≤ Int32.ofNat c := show Int32.ofNat 0 ≤ _ from (n_le (by omega) (by omega)).mpr (by omega)
      have cA : (if (0 : Int32) ≤ s.1 125 6 then (0 : Int32) else (1 : Int32)) = 0 := by rw [y3]; exact if_pos c5
      have u : tkO I p z nm Q = .inl (3, p) := by
        unfold tkO
        rw [if_pos (Or.inl nI), if_neg (fun y => q0 y.2.1)]
      have z01 : ¬ (0 : Int32) = 1 := by decide
      rw [u]
      refine ⟨_, 0, ?_, tk_f (e := 3) (a := p) k8_rf⟩
      unfold fX8_takeChunk
      rw [ob125, ob_n, r0, ob_n, ob_n, e4, r4, ob_n, f125_6, ob_n, cA, cB, if_neg z01, ob_n]
      exact fl 3 p s k8_rf
  · have cB : (if ¬ nm = (1229472850 : Int32) then (0 : Int32) else (1 : Int32)) = 0 := if_pos nI
    by_cases q0 : Q.1 = none
    · -- no header first
      have cA : (if (0 : Int32) ≤ s.1 125 6 then (0 : Int32) else (1 : Int32)) = 1 := by rw [no q0]; decide
      have u : tkO I p z nm Q = .inl (3, p) := by
        unfold tkO
        rw [if_pos (Or.inr q0), if_neg (fun y => nI y.1)]
      have z10 : ¬ (1 : Int32) = 0 := by decide
      rw [u]
      refine ⟨_, 0, ?_, tk_f (e := 3) (a := p) k8_rf⟩
      unfold fX8_takeChunk
      rw [ob125, ob_n, r0, ob_n, ob_n, e4, r4, ob_n, f125_6, ob_n, cA, cB, if_neg z10, ob_n]
      exact fl 3 p s k8_rf
    · obtain ⟨c, w, h', y1, y2, y3⟩ := yes q0
      have c5 : (0 : Int32) ≤ Int32.ofNat c := show Int32.ofNat 0 ≤ _ from (n_le (by omega) (by omega)).mpr (by omega)
      have cA : (if (0 : Int32) ≤ s.1 125 6 then (0 : Int32) else (1 : Int32)) = 0 := by rw [y3]; exact if_pos c5
      have nor : ¬ (nm = 1229472850 ∨ Q.1 = none) := fun y => y.elim nI q0
      have fa := fails8 (s := s) (g := g) (e := 4) (a := Int32.ofNat p)
      have same : jX8_takeChunk_212 (e_g s g) = some (1, e_g s g) := rfl
      have pre0 : ∀ r, (if ¬ nm = (1347179589 : Int32) then (if ¬ nm = (1951551059 : Int32) then (jX8_takeChunk_154 (e_g s g) 125 (Int32.ofNat p) (Int32.ofNat z) nm) else (Option.bind (q_fI 8 6 (e_g s g) 125) fun v38 => if ¬ v38 = (3 : Int32) then (jX8_takeChunk_154 (e_g s g) 125 (Int32.ofNat p) (Int32.ofNat z) nm) else (Option.bind (q_ob 8 (e_g s g) 125) fun u40 => q_b2 (fX8_takeClear (e_g s g) 125 (Int32.ofNat (p + 8)) (Int32.ofNat z)) fun v41 g42 => if ¬ v41 = 0 then (jX8_takeChunk_148 g42) else (Option.bind (q_ob 8 g42 125) fun u45 => q_b2 (fX8_fails g42 125 (4 : Int32) (Int32.ofNat p)) fun v46 g47 => if v46 = 0 then (jX8_takeChunk_153 g47 (0 : Int32)) else (jX8_takeChunk_148 g47))))) else (Option.bind (q_ob 8 (e_g s g) 125) fun u57 => q_b2 (fX8_takePalette (e_g s g) 125 (Int32.ofNat (p + 8)) (Int32.ofNat z)) fun v58 g59 => if ¬ v58 = 0 then (jX8_takeChunk_107 g59) else (Option.bind (q_ob 8 g59 125) fun u62 => q_b2 (fX8_fails g59 125 (4 : Int32) (Int32.ofNat p)) fun v63 g64 => if v63 = 0 then (jX8_takeChunk_112 g64 (0 : Int32)) else (jX8_takeChunk_107 g64)))) = r → fX8_takeChunk (e_g s g) 125 (Int32.ofNat p) = r := fun r hr => by
        unfold fX8_takeChunk
        rw [ob125, ob_n, r0, ob_n, ob_n, e4, r4, ob_n, f125_6, ob_n, cA, cB, if_pos rfl, if_pos nI, e8, ← hr, f125_6, ob125]
      by_cases nP : nm = 1347179589
      · have nP' : ¬ ¬ nm = (1347179589 : Int32) := fun y => y nP
        have tp := takePalette8 (g := g) h hp
        by_cases ok : plK z
        · obtain ⟨S, t1, t2, t3, t4⟩ := tp.1 ok
          have kS : K8 s S := ⟨fun j hj => t2.1 j (by
            cases e : [126].contains j with
            | false => rfl
            | true =>
              have := List.contains_iff_mem.mp e
              rw [List.mem_singleton.mp this] at hj
              exact absurd hj (by decide)), fun i m a b => t2.2.1 i m (fun y => a ⟨y.1, by
              have := List.contains_iff_mem.mp y.2
              rw [List.mem_singleton.mp this]
              decide⟩), t2.2.2.1, t2.2.2.2⟩
          have o2 := ok.2.1
          have u : tkO I p z nm Q = .inr (Q.1, (z / 3, pltV I (p + 8)), Q.2.2) := by
            unfold tkO
            rw [if_neg nor, if_pos nP, if_pos ok]
          have one : ¬ (1 : Int32) = 0 := by decide
          rw [u]
          refine ⟨S, 1, pre0 _ ?_, tk_o kS ?_⟩
          · rw [if_neg nP', ob125, ob_n, t1, b2_n, if_pos one]
            unfold jX8_takeChunk_107 jX8_takeChunk_112
            rw [b1, ob_n]
          · unfold QC at hQ ⊢
            dsimp only
            rw [t2.2.1 125 6 (by decide), t2.2.1 125 4 (by decide), t2.2.1 125 5 (by decide), t2.2.1 125 10 (by decide), t2.2.1 125 11 (by decide), t2.2.1 128 1 (by decide), t2.1 127 (by decide), t2.1 129 (by decide)]
            exact ⟨hQ.1, ⟨by omega, t3, t4⟩, hQ.2.2⟩
        · have u : tkO I p z nm Q = .inl (4, p) := by
            unfold tkO
            rw [if_neg nor, if_pos nP, if_neg ok]
          have zz : ¬ ¬ (0 : Int32) = 0 := fun y => y rfl
          rw [u]
          refine ⟨_, 0, pre0 _ ?_, tk_f (e := 4) (a := p) k8_rf⟩
          rw [if_neg nP', ob125, ob_n, tp.2 ok, b2_n, if_neg zz, ob125, ob_n, fa, b2_n, if_pos rfl]
          unfold jX8_takeChunk_112
          rw [b0, ob_n]
          rfl
      · by_cases nT : nm = 1951551059
        · have nT' : ¬ ¬ nm = (1951551059 : Int32) := fun y => y nT
          have c3 : Int32.ofNat c = (3 : Int32) ↔ c = 3 := n_eq (b := 3) (by omega) (by omega)
          by_cases qc : c = 3
          · have c3q : c3Q Q := ⟨w, h', by rw [y1, qc]⟩
            have nc : ¬ ¬ Int32.ofNat c = (3 : Int32) := fun y => y (c3.mpr qc)
            have tc := takeClear8 (g := g) h hp q2.1 q2.2.1
            by_cases ok : z ≤ Q.2.1.1
            · obtain ⟨S, t1, t2, t3, t4⟩ := tc.1 ok
              have kS : K8 s S := ⟨fun j hj => t2.1 j (by
                cases e : [127].contains j with
                | false => rfl
                | true =>
                  have := List.contains_iff_mem.mp e
                  rw [List.mem_singleton.mp this] at hj
                  exact absurd hj (by decide)), fun i m a b => t2.2.1 i m (fun y => a ⟨y.1, by
                  have := List.contains_iff_mem.mp y.2
                  rw [List.mem_singleton.mp this]
                  decide⟩), t2.2.2.1, t2.2.2.2⟩
              have q21 := q2.1
              have u : tkO I p z nm Q = .inr (Q.1, Q.2.1, (z, fun i => I (p + 8 + i)), Q.2.2.2) := by
                unfold tkO
                rw [if_neg nor, if_neg nP, if_pos nT, if_pos c3q, if_pos ok]
              have one : ¬ (1 : Int32) = 0 := by decide
              rw [u]
              refine ⟨S, 1, pre0 _ ?_, tk_o kS ?_⟩
              · rw [if_pos nP, if_neg nT', f125_6, y3, ob_n, if_neg nc, ob125, ob_n, t1, b2_n, if_pos one]
                unfold jX8_takeChunk_148 jX8_takeChunk_153
                rw [b1, ob_n]
              · unfold QC at hQ ⊢
                dsimp only
                rw [t2.2.1 125 6 (by decide), t2.2.1 125 4 (by decide), t2.2.1 125 5 (by decide), t2.2.1 125 8 (by decide), t2.2.1 125 11 (by decide), t2.2.1 128 1 (by decide), t2.1 126 (by decide), t2.1 129 (by decide)]
                exact ⟨hQ.1, hQ.2.1, ⟨by omega, t3, t4⟩, hQ.2.2.2⟩
            · have u : tkO I p z nm Q = .inl (4, p) := by
                unfold tkO
                rw [if_neg nor, if_neg nP, if_pos nT, if_pos c3q, if_neg ok]
              have zz : ¬ ¬ (0 : Int32) = 0 := fun y => y rfl
              rw [u]
              refine ⟨_, 0, pre0 _ ?_, tk_f (e := 4) (a := p) k8_rf⟩
              rw [if_pos nP, if_neg nT', f125_6, y3, ob_n, if_neg nc, ob125, ob_n, tc.2 ok, b2_n, if_neg zz, ob125, ob_n, fa, b2_n, if_pos rfl]
              unfold jX8_takeChunk_153
              rw [b0, ob_n]
              rfl
          · have c3q : ¬ c3Q Q := fun y => by
              obtain ⟨w2, h2, y'⟩ := y
              rw [y1] at y'
              exact qc (congrArg Prod.fst (Option.some.inj y'))
            have u : tkO I p z nm Q = .inr Q := by
              unfold tkO
              rw [if_neg nor, if_neg nP, if_pos nT, if_neg c3q]
            have nc : ¬ Int32.ofNat c = (3 : Int32) := fun y => qc (c3.mp y)
            have nD : ¬ nm = (1229209940 : Int32) := by rw [nT]; decide
            rw [u]
            refine ⟨s, 1, pre0 _ ?_, tk_o k8_rf hQ⟩
            rw [if_pos nP, if_neg nT', f125_6, y3, ob_n, if_pos nc]
            unfold jX8_takeChunk_154
            rw [if_pos nD, same]
        · by_cases nD : nm = 1229209940
          · have nD' : ¬ ¬ nm = (1229209940 : Int32) := fun y => y nD
            have u : tkO I p z nm Q = .inr (Q.1, Q.2.1, Q.2.2.1, some (Q.2.2.2.1.getD p), (pkV I (p + 8) Q.2.2.2.2.2 Q.2.2.2.2.1, Q.2.2.2.2.2 + z)) := by
              unfold tkO
              rw [if_neg nor, if_neg nP, if_neg nT, if_pos nD]
            have ex : ∃ v : Int32, (Option.bind (q_fI 8 11 (e_g s g) 125) fun v18 => if 0 ≤ v18 then (Option.bind (q_fI 8 11 (e_g s g) 125) fun v21 => jX8_takeChunk_176 (e_g s g) 125 (Int32.ofNat p) (Int32.ofNat z) 125 v21) else (jX8_takeChunk_176 (e_g s g) 125 (Int32.ofNat p) (Int32.ofNat z) 125 (Int32.ofNat p))) = jX8_takeChunk_176 (e_g s g) 125 (Int32.ofNat p) (Int32.ofNat z) 125 v ∧ v = Int32.ofNat (Q.2.2.2.1.getD p) ∧ Q.2.2.2.1.getD p ≤ 8000 := by
              rw [f125_11, ob_n, ob_n]
              rcases q4 with ⟨a1, a2⟩ | ⟨a, a1, a2, a3⟩
              · refine ⟨Int32.ofNat p, ?_, by rw [a1]; rfl, by rw [a1]; show p ≤ 8000; omega⟩
                rw [a2, if_neg (by decide)]
              · have ca : (0 : Int32) ≤ Int32.ofNat a := show Int32.ofNat 0 ≤ _ from (n_le (by omega) (by omega)).mpr (by omega)
                refine ⟨Int32.ofNat a, ?_, by rw [a1]; rfl, by rw [a1]; exact a2⟩
                rw [a3, if_pos ca]
            obtain ⟨v, ex1, ex2, ex3⟩ := ex
            obtain ⟨S, t1, t2, t3, t4, t5, t6, t7⟩ := packed8 (g := g) (v := v) h hp (by omega) q5 q6
            rw [u]
            refine ⟨S, 1, pre0 _ ?_, tk_o t2 ?_⟩
            · rw [if_pos nP, if_pos nT]
              unfold jX8_takeChunk_154
              rw [if_neg nD', ex1, t1]
            · unfold QC at hQ ⊢
              dsimp only
              rw [t4 6 (by decide), t4 4 (by decide), t4 5 (by decide), t4 8 (by decide), t4 10 (by decide), t5 126 (by decide), t5 127 (by decide)]
              exact ⟨hQ.1, hQ.2.1, hQ.2.2.1, Or.inr ⟨_, rfl, ex3, t3.trans ex2⟩, t6, t7⟩
          · have u : tkO I p z nm Q = .inr Q := by
              unfold tkO
              rw [if_neg nor, if_neg nP, if_neg nT, if_neg nD]
            rw [u]
            refine ⟨s, 1, pre0 _ ?_, tk_o k8_rf hQ⟩
            rw [if_pos nP, if_pos nT]
            unfold jX8_takeChunk_154
            rw [if_pos nD, same]
