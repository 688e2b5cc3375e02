-- needs: 97zzzzb
/-! ===== png: one chunk taken by the reference ===== -/
def K10 (s s' : e_S) : Prop := Kp [188, 189, 190] 139 [4, 5, 79, 82, 83, 84, 85, 86] s s'
def TkM (s : e_S) (r : (Nat × Nat) ⊕ CQ) (s' : e_S) : Prop := K10 s s' ∧ (∀ Q', r = .inr Q' → s'.1 139 4 = 0 ∧ s'.1 139 5 = s.1 139 5 ∧ QM s' Q') ∧ ∀ e a, r = .inl (e, a) → s'.1 139 4 = Int32.ofNat e ∧ s'.1 139 5 = Int32.ofNat a
theorem tm_f {s S : e_S} {e a : Nat} (k : K10 s S) : TkM s (.inl (e, a)) (sF (sF S 139 4 (Int32.ofNat e)) 139 5 (Int32.ofNat a)) := by
  refine ⟨kp_F (kp_F k (by decide)) (by decide), fun Q' z => (by cases z), fun e' a' z => ?_⟩
  have z' := Sum.inl.inj z
  have e1 : e = e' := congrArg Prod.fst z'
  have e2 : a = a' := congrArg Prod.snd z'
  rw [← e1, ← e2]
  exact ⟨by rw [F_sF, if_neg (by decide), F_sF, if_pos ⟨rfl, rfl⟩], by rw [F_sF, if_pos ⟨rfl, rfl⟩]⟩
theorem tm_o {s S : e_S} {Q : CQ} (k : K10 s S) (h4 : S.1 139 4 = 0) (h5 : S.1 139 5 = s.1 139 5) (h : QM S Q) : TkM s (.inr Q) S := by
  refine ⟨k, fun Q' z => ?_, fun e' a' z => (by cases z)⟩
  have e : Q = Q' := Sum.inr.inj z
  rw [← e]
  exact ⟨h4, h5, h⟩
theorem k10_w {A Fs : List Nat} {s s' : e_S} (h : Kp A 139 Fs s s') (hA : ∀ j, j ∈ A → j ∈ [188, 189, 190]) (hF : ∀ j, j ∈ Fs → j ∈ [4, 5, 79, 82, 83, 84, 85, 86]) : K10 s s' := kp_w h (fun j hj => List.contains_iff_mem.mpr (hA j (List.contains_iff_mem.mp hj))) (fun j hj => List.contains_iff_mem.mpr (hF j (List.contains_iff_mem.mp hj)))
theorem take12 {s : e_S} {g : ps_G} {I : Nat → Int32} {n p z : Nat} {Q : CQ} {fs nm : Int32} (h : DM s I n) (hQ : QM s Q) (h4 : s.1 139 4 = 0) (hp : p + 12 + z ≤ n) (hl : Q.2.2.2.2.2 ≤ p) (hf : (fs = 1 ∧ Q.1 = none) ∨ (fs = 0 ∧ ¬ Q.1 = none)) : ∃ s', (if ¬ (¬ fs = 0) ∧ (¬ nm = (1229472850 : Int32)) then (if ¬ nm = (1347179589 : Int32) then (if ¬ nm = (1951551059 : Int32) then (if ¬ nm = (1229209940 : Int32) then (jX12_readChunks_299_92 (e_g s g) 139 (Int32.ofNat p) (Int32.ofNat z) nm) else (Option.bind (q_ob 12 (e_g s g) 139) fun u86 => Option.bind (fX12_readPacked (e_g s g) 139 (Int32.ofNat p) (Int32.ofNat z)) fun v87 => jX12_readChunks_299_92 v87 139 (Int32.ofNat p) (Int32.ofNat z) nm)) else (Option.bind (q_ob 12 (e_g s g) 139) fun u90 => Option.bind (fX12_readClear (e_g s g) 139 (Int32.ofNat p) (Int32.ofNat z)) fun v91 => jX12_readChunks_299_92 v91 139 (Int32.ofNat p) (Int32.ofNat z) nm)) else (Option.bind (q_ob 12 (e_g s g) 139) fun u94 => Option.bind (fX12_readColours (e_g s g) 139 (Int32.ofNat p) (Int32.ofNat z)) fun v95 => jX12_readChunks_299_92 v95 139 (Int32.ofNat p) (Int32.ofNat z) nm)) else (Option.bind (q_ob 12 (e_g s g) 139) fun u98 => Option.bind (fX12_header (e_g s g) 139 (Int32.ofNat p) (Int32.ofNat z) nm fs) fun v99 => jX12_readChunks_299_92 v99 139 (Int32.ofNat p) (Int32.ofNat z) nm)) = jX12_readChunks_299_92 (e_g s' g) 139 (Int32.ofNat p) (Int32.ofNat z) nm ∧ TkM s (tkO I p z nm Q) s' := by
  have hn := h.1
  obtain ⟨q1, q2, q3, q4, q5, q6⟩ := id hQ
  have f01 : fs = 0 ∨ fs = 1 := hf.elim (fun y => Or.inr y.1) (fun y => Or.inl y.1)
  by_cases hd : nm = 1229472850 ∨ Q.1 = none
  · have cnd : ¬ (¬ (¬ fs = 0) ∧ (¬ nm = (1229472850 : Int32))) := by
      rintro ⟨y1, y2⟩
      rcases hd with hd | hd
      · exact y2 hd
      · rcases hf with hf | hf
        · exact y1 (by rw [hf.1]; decide)
        · exact hf.2 hd
    obtain ⟨a1, a2⟩ := header12 (g := g) (nm := nm) h hp h4 f01
    by_cases ok : fs = 1 ∧ nm = 1229472850 ∧ hdK I p z
    · obtain ⟨S, t1, t2, t3, t4, t5⟩ := a1 ok
      have q0 : Q.1 = none := hf.elim (fun y => y.2) (fun y => by
        have := ok.1
        rw [y.1] at this
        exact absurd this (by decide))
      have u : tkO I p z nm Q = .inr (some (hdQ I p), Q.2) := by
        unfold tkO
        rw [if_pos hd, if_pos ⟨ok.2.1, q0, ok.2.2⟩]
      rw [u]
      refine ⟨S, ?_, tm_o (k10_w t2 (fun j hj => by cases hj) (by decide)) ((t2.2.1 139 4 (by decide)).trans h4) (t2.2.1 139 5 (by decide)) ?_⟩
      · rw [if_neg cnd, ob139, ob_n, t1, ob_n]
      · obtain ⟨c, w, h', y1, y2, y3, y4, y5, y6, y7⟩ := hd_q ok.2.2
        unfold QM at hQ ⊢
        dsimp only
        rw [t2.2.1 139 82 (by decide), t2.2.1 139 86 (by decide), t2.2.1 139 79 (by decide), t2.1 189 (by decide), t2.1 190 (by decide), t2.1 188 (by decide)]
        exact ⟨Or.inr ⟨c, w, h', by rw [y1], y2, y3, y4, t5.trans y5, t3.trans y6, t4.trans y7⟩, hQ.2⟩
    · obtain ⟨S, t1, t2⟩ := a2 ok
      have u : tkO I p z nm Q = .inl (3, p) := by
        unfold tkO
        rw [if_pos hd, if_neg]
        rintro ⟨y1, y2, y3⟩
        refine ok ⟨?_, y1, y3⟩
        exact hf.elim (fun y => y.1) (fun y => absurd y2 y.2)
      rw [u]
      refine ⟨_, ?_, tm_f (e := 3) (a := p) (k10_w t2 (fun j hj => by cases hj) (by decide))⟩
      rw [if_neg cnd, ob139, ob_n, t1, ob_n]
      rfl
  · have nI : ¬ nm = 1229472850 := fun y => hd (Or.inl y)
    have q0 : ¬ Q.1 = none := fun y => hd (Or.inr y)
    have f0 : fs = 0 := hf.elim (fun y => absurd y.2 q0) (fun y => y.1)
    have cnd : ¬ (¬ fs = 0) ∧ (¬ nm = (1229472850 : Int32)) := ⟨fun y => y f0, nI⟩
    obtain ⟨c, w, h', y1, y2, y3, y4, y5, y6, y7⟩ : ∃ c w h', Q.1 = some (c, w, h') ∧ c < 7 ∧ (1 ≤ w ∧ w ≤ 24) ∧ (1 ≤ h' ∧ h' ≤ 24) ∧ s.1 139 85 = Int32.ofNat c ∧ s.1 139 83 = Int32.ofNat w ∧ s.1 139 84 = Int32.ofNat h' := q1.elim (fun y => absurd y q0) id
    rw [if_pos cnd]
    by_cases nP : nm = 1347179589
    · have nP' : ¬ ¬ nm = (1347179589 : Int32) := fun y => y nP
      obtain ⟨a1, a2⟩ := readColours12 (g := g) h hp h4
      by_cases ok : plK z
      · obtain ⟨S, t1, t2, t3, t4⟩ := a1 ok
        have u : tkO I p z nm Q = .inr (Q.1, (z / 3, pltV I (p + 8)), Q.2.2) := by
          unfold tkO
          rw [if_neg hd, if_pos nP, if_pos ok]
        have o2 := ok.2.1
        rw [u]
        refine ⟨S, ?_, tm_o (k10_w t2 (by decide) (by decide)) ((t2.2.1 139 4 (by decide)).trans h4) (t2.2.1 139 5 (by decide)) ?_⟩
        · rw [if_neg nP', ob139, ob_n, t1, ob_n]
        · unfold QM at hQ ⊢
          dsimp only
          rw [t2.2.1 139 83 (by decide), t2.2.1 139 84 (by decide), t2.2.1 139 85 (by decide), t2.2.1 139 86 (by decide), t2.2.1 139 79 (by decide), t2.1 190 (by decide), t2.1 188 (by decide)]
          exact ⟨hQ.1, ⟨by omega, t3, t4⟩, hQ.2.2⟩
      · have u : tkO I p z nm Q = .inl (4, p) := by
          unfold tkO
          rw [if_neg hd, if_pos nP, if_neg ok]
        rw [u]
        refine ⟨_, ?_, tm_f (e := 4) (a := p) kp_rf⟩
        rw [if_neg nP', ob139, ob_n, a2 ok, ob_n]
        rfl
    · rw [if_pos nP]
      by_cases nT : nm = 1951551059
      · have nT' : ¬ ¬ nm = (1951551059 : Int32) := fun y => y nT
        obtain ⟨a1, a2, a3⟩ := readClear12 (g := g) h hp q2.1 y2 h4 q2.2.1 y5
        rw [if_neg nT', ob139, ob_n]
        by_cases qc : c = 3
        · have c3q : c3Q Q := ⟨w, h', by rw [y1, qc]⟩
          by_cases ok : z ≤ Q.2.1.1
          · obtain ⟨S, t1, t2, t3⟩ := a2 qc ok
            have q21 := q2.1
            have u : tkO I p z nm Q = .inr (Q.1, Q.2.1, (z, fun i => I (p + 8 + i)), Q.2.2.2) := by
              unfold tkO
              rw [if_neg hd, if_neg nP, if_pos nT, if_pos c3q, if_pos ok]
            rw [u]
            refine ⟨S, by rw [t1, ob_n], tm_o (k10_w t2 (by decide) (fun j hj => by cases hj)) ((t2.2.1 139 4 (by decide)).trans h4) (t2.2.1 139 5 (by decide)) ?_⟩
            unfold QM at hQ ⊢
            dsimp only
            rw [t2.2.1 139 83 (by decide), t2.2.1 139 84 (by decide), t2.2.1 139 85 (by decide), t2.2.1 139 82 (by decide), t2.2.1 139 86 (by decide), t2.2.1 139 79 (by decide), t2.1 189 (by decide), t2.1 188 (by decide)]
            exact ⟨hQ.1, hQ.2.1, ⟨by omega, t3⟩, hQ.2.2.2⟩
          · have u : tkO I p z nm Q = .inl (4, p) := by
              unfold tkO
              rw [if_neg hd, if_neg nP, if_pos nT, if_pos c3q, if_neg ok]
            rw [u]
            refine ⟨_, ?_, tm_f (e := 4) (a := p) kp_rf⟩
            rw [a3 qc ok, ob_n]
            rfl
        · have c3q : ¬ c3Q Q := fun y => by
            obtain ⟨w2, h2, y'⟩ := y
            rw [y1] at y'
            exact qc (congrArg Prod.fst (Option.some.inj y'))
          have u : tkO I p z nm Q = .inr Q := by
            unfold tkO
            rw [if_neg hd, if_neg nP, if_pos nT, if_neg c3q]
          rw [u]
          exact ⟨s, by rw [a1 qc, ob_n], tm_o kp_rf h4 rfl hQ⟩
      · rw [if_pos nT]
        by_cases nD : nm = 1229209940
        · have nD' : ¬ ¬ nm = (1229209940 : Int32) := fun y => y nD
          obtain ⟨S, t1, t2, t3, t4, t5⟩ := readPacked12 (g := g) h hp (by omega) q5 q6
          have u : tkO I p z nm Q = .inr (Q.1, Q.2.1, Q.2.2.1, some (Q.2.2.2.1.getD p), (pkV I (p + 8) Q.2.2.2.2.2 Q.2.2.2.2.1, Q.2.2.2.2.2 + z)) := by
            unfold tkO
            rw [if_neg hd, if_neg nP, if_neg nT, if_pos nD]
          have ex : S.1 139 86 = Int32.ofNat (Q.2.2.2.1.getD p) ∧ Q.2.2.2.1.getD p ≤ 8000 := by
            rw [t3]
            rcases q4 with ⟨b1, b2⟩ | ⟨a, b1, b2, b3⟩
            · refine ⟨?_, by rw [b1]; show p ≤ 8000; omega⟩
              rw [b2, if_neg (by decide), b1]
              rfl
            · have ca : (0 : Int32) ≤ Int32.ofNat a := show Int32.ofNat 0 ≤ _ from (n_le (by omega) (by omega)).mpr (by omega)
              refine ⟨?_, by rw [b1]; exact b2⟩
              rw [b3, if_pos ca, b1]
              rfl
          rw [u]
          refine ⟨S, by rw [if_neg nD', ob139, ob_n, t1, ob_n], tm_o (k10_w t2 (by decide) (by decide)) ((t2.2.1 139 4 (by decide)).trans h4) (t2.2.1 139 5 (by decide)) ?_⟩
          unfold QM at hQ ⊢
          dsimp only
          rw [t2.2.1 139 83 (by decide), t2.2.1 139 84 (by decide), t2.2.1 139 85 (by decide), t2.2.1 139 82 (by decide), t2.1 189 (by decide), t2.1 190 (by decide)]
          exact ⟨hQ.1, hQ.2.1, hQ.2.2.1, Or.inr ⟨_, rfl, ex.2, ex.1⟩, t4, t5⟩
        · have u : tkO I p z nm Q = .inr Q := by
            unfold tkO
            rw [if_neg hd, if_neg nP, if_neg nT, if_neg nD]
          rw [u]
          exact ⟨s, by rw [if_pos nD], tm_o kp_rf h4 rfl hQ⟩
