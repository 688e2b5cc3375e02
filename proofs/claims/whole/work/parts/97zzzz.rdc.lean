-- needs: 97zzzy
/-! ===== png: bytes of the file ===== -/
/-- the class reads the file's n bytes I -/
def DC (s : e_S) (I : Nat → Int32) (n : Nat) : Prop := n ≤ 8000 ∧ s.2.2.1 125 2 = some 137 ∧ s.1 125 3 = Int32.ofNat n ∧ (∀ i, i < n → s.2.1 137 i = I i) ∧ ∀ i, i < n → rg (I i) 0 255 = true
def DM (s : e_S) (I : Nat → Int32) (n : Nat) : Prop := n ≤ 8000 ∧ s.1 139 3 = Int32.ofNat n ∧ (∀ i, i < n → s.2.1 140 i = I i) ∧ ∀ i, i < n → rg (I i) 0 255 = true
def biz (I : Nat → Int32) (n i : Nat) : Int32 := if i < n then I i else 0
theorem byte8 {s : e_S} {g : ps_G} {I : Nat → Int32} {n i : Nat} (h : DC s I n) (hi : i < 100000) : fX8_byteAt (e_g s g) 125 (Int32.ofNat i) = some (biz I n i) := by
  obtain ⟨h1, h2, h3, h4, h5⟩ := h
  have l1 : q_len (e_g s g) 137 = some (Int32.ofNat 8000) := l137
  unfold fX8_byteAt jX8_byteAt_34 jX8_byteAt_35 biz
  rw [if_neg (n_neg (by omega)), f125_3, h3, ob_n]
  by_cases q : i < n
  · rw [if_neg (nle q (by omega)), f125_2, h2, ob_n, ob_n, l1, ob_n, if_neg (nle (by omega) (by omega)), ob_n, ob_n, tb_rd t137 (by omega) (by omega), ob_n, h4 i q, and_b (h5 i q), if_pos q]
  · rw [if_pos ((n_le (by omega) (by omega)).mpr (by omega)), if_neg q]
theorem four8 {s : e_S} {g : ps_G} {I : Nat → Int32} {n p : Nat} (h : DC s I n) (hi : p < 90000) : fX8_fourAt (e_g s g) 125 (Int32.ofNat p) = some (sm4 (biz I n) p) := by
  have e1 : Int32.ofNat p + 1 = Int32.ofNat (p + 1) := n_suc
  have e2 : Int32.ofNat p + 2 = Int32.ofNat (p + 2) := n_add (m := 2)
  have e3 : Int32.ofNat p + 3 = Int32.ofNat (p + 3) := n_add (m := 3)
  unfold fX8_fourAt
  rw [ob125, ob_n, byte8 h (by omega), ob_n, ob_n, e1, byte8 h (by omega), ob_n, ob_n, e2, byte8 h (by omega), ob_n, ob_n, e3, byte8 h (by omega), ob_n]
  rfl
theorem sm4_b {I : Nat → Int32} {n p : Nat} (h : p + 4 ≤ n) : sm4 (biz I n) p = sm4 I p := by
  unfold sm4 biz
  rw [if_pos (by omega), if_pos (by omega), if_pos (by omega), if_pos (by omega)]
theorem biz_i {I : Nat → Int32} {n p : Nat} (h : p < n) : biz I n p = I p := if_pos h
theorem in12 {s : e_S} {g : ps_G} {I : Nat → Int32} {n i : Nat} (h : DM s I n) (hi : i < n) : q_aI (e_g s g) 140 (Int32.ofNat i) = some (I i) := by
  have h1 := h.1
  rw [tb_rd t140 (show i < 8000 by omega) (by omega), h.2.2.1 i hi]
theorem word12 {s : e_S} {g : ps_G} {I : Nat → Int32} {n p : Nat} (h : DM s I n) (hp : p + 4 ≤ n) : fX12_word (e_g s g) 139 (Int32.ofNat p) = some (sm4 I p) := by
  have h1 := h.1
  have e1 : Int32.ofNat p + 1 = Int32.ofNat (p + 1) := n_suc
  have e2 : Int32.ofNat p + 2 = Int32.ofNat (p + 2) := n_add (m := 2)
  have e3 : Int32.ofNat p + 3 = Int32.ofNat (p + 3) := n_add (m := 3)
  unfold fX12_word
  rw [f139_1, ob_n, ob_n, in12 h (by omega), ob_n, ob_n, ob_n, e1, in12 h (by omega), ob_n, ob_n, ob_n, e2, in12 h (by omega), ob_n, ob_n, ob_n, e3, in12 h (by omega), ob_n]
  rfl
theorem crc8 {s : e_S} {g : ps_G} {I : Nat → Int32} {n a m : Nat} (h : DC s I n) (ha : a + m ≤ n) : fX11_crc (e_g s g) 137 (Int32.ofNat a) (Int32.ofNat (a + m)) = some (ckV I a m ^^^ -1) := by
  obtain ⟨h1, h2, h3, h4, h5⟩ := h
  have l1 : q_len (e_g s g) 137 = some (Int32.ofNat 8000) := l137
  have mx : fJ9_max_7cf53 (Int32.ofNat a) 0 = Int32.ofNat a := by
    have e0 : (0 : Int32).toInt = 0 := by decide
    rw [i_eq, mx_i, e0, n_int (by omega)]
    split <;> omega
  have lp := lp_0 (b := fun t => bX11_crc_9 (e_g s g) 137 (Int32.ofNat (a + m)) t.1 t.2) (s := ((-1 : Int32), Int32.ofNat a)) (r := ckV I a m) (fun k => (ckV I a k, Int32.ofNat (a + k))) m rfl (fun k hk => ?_) ?_
  · unfold fX11_crc jX11_crc_75
    rw [mx, lp, ob_n]
  · show bX11_crc_9 _ _ _ _ _ = _
    unfold bX11_crc_9
    dsimp only
    rw [if_neg (nle (by omega) (by omega)), l1, ob_n, if_neg (nle (by omega) (by omega)), tb_rd t137 (by omega) (by omega), ob_n, h4 _ (by omega), crcl, ob_n, n_suc]
    rfl
  · show bX11_crc_9 _ _ _ _ _ = _
    unfold bX11_crc_9
    dsimp only
    rw [if_pos (nlr (by omega))]
theorem crcM {s : e_S} {g : ps_G} {I : Nat → Int32} {n p z : Nat} {x3 : Int32} (h : DM s I n) (hp : p + 8 + z ≤ n) : q_lp (fun t => bX12_readChunks_157 (e_g s g) 139 (Int32.ofNat p) x3 (Int32.ofNat z) t.1 t.2) ((-1 : Int32), Int32.ofNat (p + 4)) = some (ckV I (p + 4) (z + 4)) := by
  have h1 := h.1
  have e8 : Int32.ofNat p + 8 + Int32.ofNat z = Int32.ofNat (p + 8 + z) := by
    have e : Int32.ofNat p + 8 = Int32.ofNat (p + 8) := n_add (m := 8)
    rw [e, n_add]
  refine lp_0 (fun k => (ckV I (p + 4) k, Int32.ofNat (p + 4 + k))) (z + 4) rfl (fun k hk => ?_) ?_
  · show bX12_readChunks_157 _ _ _ _ _ _ _ = _
    unfold bX12_readChunks_157
    dsimp only
    have e : ckV I (p + 4) (k + 1) = c1V (ckV I (p + 4) k ^^^ (I (p + 4 + k) &&& 255)) 8 := rfl
    rw [e8, if_neg (nle (by omega) (by omega)), f139_1, ob_n, ob_n, in12 h (by omega), ob_n, checked12, ob_n, n_suc, e, and_b (h.2.2.2 _ (by omega))]
    rfl
  · show bX12_readChunks_157 _ _ _ _ _ _ _ = _
    unfold bX12_readChunks_157
    dsimp only
    rw [e8, if_pos ((n_le (by omega) (by omega)).mpr (by omega))]
/-- what the chunks told so far: header, palette, clear, first IDAT, packed bytes -/
abbrev CQ : Type := Option (Nat × Nat × Nat) × (Nat × (Nat → Int32)) × (Nat × (Nat → Int32)) × Option Nat × ((Nat → Int32) × Nat)
def QC (s : e_S) (Q : CQ) : Prop := ((Q.1 = none ∧ s.1 125 6 = -1) ∨ ∃ c w h, Q.1 = some (c, w, h) ∧ c < 7 ∧ (1 ≤ w ∧ w ≤ 24) ∧ (1 ≤ h ∧ h ≤ 24) ∧ s.1 125 6 = Int32.ofNat c ∧ s.1 125 4 = Int32.ofNat w ∧ s.1 125 5 = Int32.ofNat h) ∧ (Q.2.1.1 ≤ 256 ∧ s.1 125 8 = Int32.ofNat Q.2.1.1 ∧ ∀ i, i < Q.2.1.1 → s.2.1 126 i = Q.2.1.2 i) ∧ (Q.2.2.1.1 ≤ 256 ∧ s.1 125 10 = Int32.ofNat Q.2.2.1.1 ∧ ∀ i, i < Q.2.2.1.1 → s.2.1 127 i = Q.2.2.1.2 i) ∧ ((Q.2.2.2.1 = none ∧ s.1 125 11 = -1) ∨ ∃ a, Q.2.2.2.1 = some a ∧ a ≤ 8000 ∧ s.1 125 11 = Int32.ofNat a) ∧ s.1 128 1 = Int32.ofNat Q.2.2.2.2.2 ∧ ∀ i, i < Q.2.2.2.2.2 → s.2.1 129 i = Q.2.2.2.2.1 i
def QM (s : e_S) (Q : CQ) : Prop := (Q.1 = none ∨ ∃ c w h, Q.1 = some (c, w, h) ∧ c < 7 ∧ (1 ≤ w ∧ w ≤ 24) ∧ (1 ≤ h ∧ h ≤ 24) ∧ s.1 139 85 = Int32.ofNat c ∧ s.1 139 83 = Int32.ofNat w ∧ s.1 139 84 = Int32.ofNat h) ∧ (Q.2.1.1 ≤ 256 ∧ s.1 139 82 = Int32.ofNat Q.2.1.1 ∧ ∀ i, i < Q.2.1.1 → s.2.1 189 i = Q.2.1.2 i) ∧ (Q.2.2.1.1 ≤ 256 ∧ ∀ i, i < 256 → s.2.1 190 i = if i < Q.2.2.1.1 then Q.2.2.1.2 i else 255) ∧ ((Q.2.2.2.1 = none ∧ s.1 139 86 = -1) ∨ ∃ a, Q.2.2.2.1 = some a ∧ a ≤ 8000 ∧ s.1 139 86 = Int32.ofNat a) ∧ s.1 139 79 = Int32.ofNat Q.2.2.2.2.2 ∧ ∀ i, i < Q.2.2.2.2.2 → s.2.1 188 i = Q.2.2.2.2.1 i
/-- what stays while chunks are read -/
def K8 (s s' : e_S) : Prop := (∀ j, [126, 127, 129].contains j = false → s'.2.1 j = s.2.1 j) ∧ (∀ i k, ¬ (i = 125 ∧ [0, 1, 4, 5, 6, 8, 10, 11].contains k = true) → ¬ (i = 128 ∧ k = 1) → s'.1 i k = s.1 i k) ∧ s'.2.2.1 = s.2.2.1 ∧ s'.2.2.2 = s.2.2.2
def K9 (s s' : e_S) : Prop := Kp [188, 189, 190] 139 [79, 82, 83, 84, 85, 86] s s'
theorem k8_rf {s : e_S} : K8 s s := ⟨fun _ _ => rfl, fun _ _ _ _ => rfl, rfl, rfl⟩
theorem k8_tr {s s' s'' : e_S} (h : K8 s s') (h' : K8 s' s'') : K8 s s'' := ⟨fun j hj => (h'.1 j hj).trans (h.1 j hj), fun i k a b => (h'.2.1 i k a b).trans (h.2.1 i k a b), h'.2.2.1.trans h.2.2.1, h'.2.2.2.trans h.2.2.2⟩
theorem k8_F {s : e_S} {f : Nat} {v : Int32} (hf : [0, 1, 4, 5, 6, 8, 10, 11].contains f = true) : K8 s (sF s 125 f v) := by
  refine ⟨fun j hj => by rw [A_sF], fun i k a b => ?_, by rw [R_sF], by rw [L_sF]⟩
  rw [F_sF, if_neg]
  intro e
  exact a ⟨e.1, by rw [e.2]; exact hf⟩
theorem k8_L {s : e_S} {v : Int32} : K8 s (sF s 128 1 v) := by
  refine ⟨fun j hj => by rw [A_sF], fun i k a b => ?_, by rw [R_sF], by rw [L_sF]⟩
  rw [F_sF, if_neg]
  intro e
  exact b e
theorem k8_A {s : e_S} {j : Nat} {r : Nat → Int32} (hj : [126, 127, 129].contains j = true) : K8 s (sA s j r) := by
  refine ⟨fun i hi => ?_, fun i k a b => by rw [F_sA], by rw [R_sA], by rw [L_sA]⟩
  rw [A_sA, if_neg]
  intro e
  rw [e, hj] at hi
  cases hi
theorem dc_k {s s' : e_S} {I : Nat → Int32} {n : Nat} (h : DC s I n) (k : K8 s s') : DC s' I n := by
  unfold DC at h ⊢
  rw [k.2.2.1, k.2.1 125 3 (by decide) (by decide), k.1 137 (by decide)]
  exact h
theorem dm_k {s s' : e_S} {I : Nat → Int32} {n : Nat} (h : DM s I n) (k : K9 s s') : DM s' I n := by
  unfold DM at h ⊢
  rw [k.2.1 139 3 (by decide), k.1 140 (by decide)]
  exact h
/-- the header -/
def hdK (I : Nat → Int32) (p z : Nat) : Prop := z = 13 ∧ ((1 : Int32) ≤ sm4 I (p + 8) ∧ sm4 I (p + 8) ≤ 24) ∧ ((1 : Int32) ≤ sm4 I (p + 12) ∧ sm4 I (p + 12) ≤ 24) ∧ I (p + 16) = 8 ∧ (I (p + 17) = 0 ∨ I (p + 17) = 2 ∨ I (p + 17) = 3 ∨ I (p + 17) = 4 ∨ I (p + 17) = 6) ∧ I (p + 18) = 0 ∧ I (p + 19) = 0 ∧ I (p + 20) = 0
def hdQ (I : Nat → Int32) (p : Nat) : Nat × Nat × Nat := ((I (p + 17)).toInt.toNat, (sm4 I (p + 8)).toInt.toNat, (sm4 I (p + 12)).toInt.toNat)
theorem hd_q {I : Nat → Int32} {p z : Nat} (h : hdK I p z) : ∃ c w h', hdQ I p = (c, w, h') ∧ c < 7 ∧ (1 ≤ w ∧ w ≤ 24) ∧ (1 ≤ h' ∧ h' ≤ 24) ∧ I (p + 17) = Int32.ofNat c ∧ sm4 I (p + 8) = Int32.ofNat w ∧ sm4 I (p + 12) = Int32.ofNat h' := by
  obtain ⟨-, ⟨w1, w2⟩, ⟨h1, h2⟩, -, c1, -⟩ := h
  have e1 : (1 : Int32).toInt = 1 := by decide
  have e24 : (24 : Int32).toInt = 24 := by decide
  rw [i_le, e1] at w1 h1
  rw [i_le, e24] at w2 h2
  have c0 : 0 ≤ (I (p + 17)).toInt ∧ (I (p + 17)).toInt < 7 := by
    rcases c1 with c | c | c | c | c <;> rw [c] <;> decide
  exact ⟨_, _, _, rfl, by omega, by omega, by omega, n_of (by omega), n_of (by omega), n_of (by omega)⟩
theorem takeHeader8 {s : e_S} {g : ps_G} {I : Nat → Int32} {n p z : Nat} (h : DC s I n) (hp : p + 12 + z ≤ n) : ∃ s' v, fX8_takeHeader (e_g s g) 125 (Int32.ofNat (p + 8)) (Int32.ofNat z) = some (v, e_g s' g) ∧ K8 s s' ∧ (hdK I p z → v = 1 ∧ s'.1 125 6 = I (p + 17) ∧ s'.1 125 4 = sm4 I (p + 8) ∧ s'.1 125 5 = sm4 I (p + 12) ∧ (∀ k, k = 8 ∨ k = 10 ∨ k = 11 → s'.1 125 k = s.1 125 k) ∧ s'.2.1 = s.2.1 ∧ s'.1 128 1 = s.1 128 1) ∧ (¬ hdK I p z → v = 0) := by
  have hn := h.1
  have b0 : q_bl 0 = some 0 := rfl
  have b1 : q_bl 1 = some 1 := rfl
  have ad : ∀ k : Nat, Int32.ofNat (p + 8) + Int32.ofNat k = Int32.ofNat (p + 8 + k) := fun k => n_add
  have a9 : Int32.ofNat (p + 8) + 9 = Int32.ofNat (p + 8 + 9) := ad 9
  have a4 : Int32.ofNat (p + 8) + 4 = Int32.ofNat (p + 8 + 4) := ad 4
  have a8 : Int32.ofNat (p + 8) + 8 = Int32.ofNat (p + 8 + 8) := ad 8
  have a10 : Int32.ofNat (p + 8) + 10 = Int32.ofNat (p + 8 + 10) := ad 10
  have a11 : Int32.ofNat (p + 8) + 11 = Int32.ofNat (p + 8 + 11) := ad 11
  have a12 : Int32.ofNat (p + 8) + 12 = Int32.ofNat (p + 8 + 12) := ad 12
  obtain ⟨S1, eS1⟩ : ∃ S1, S1 = sF (sF s 125 4 (sm4 (biz I n) (p + 8))) 125 5 (sm4 (biz I n) (p + 8 + 4)) := ⟨_, rfl⟩
  have k1 : K8 s S1 := by rw [eS1]; exact k8_tr (k8_F (by decide)) (k8_F (by decide))
  have f4 : S1.1 125 4 = sm4 (biz I n) (p + 8) := by rw [eS1, F_sF, if_neg (by decide), F_sF, if_pos ⟨rfl, rfl⟩]
  have f5 : S1.1 125 5 = sm4 (biz I n) (p + 8 + 4) := by rw [eS1, F_sF, if_pos ⟨rfl, rfl⟩]
  have fk : ∀ k, k = 8 ∨ k = 10 ∨ k = 11 → S1.1 125 k = s.1 125 k := fun k hk => by
    rw [eS1, F_sF, if_neg (by omega), F_sF, if_neg (by omega)]
  have aA : S1.2.1 = s.2.1 := by rw [eS1, A_sF, A_sF]
  have f1 : S1.1 128 1 = s.1 128 1 := by rw [eS1, F_sF, if_neg (by decide), F_sF, if_neg (by decide)]
  have d1 := dc_k h k1
  have dS : DC (sF s 125 4 (sm4 (biz I n) (p + 8))) I n := dc_k h (k8_F (by decide))
  have pre : fX8_takeHeader (e_g s g) 125 (Int32.ofNat (p + 8)) (Int32.ofNat z) = if ¬ Int32.ofNat z = (13 : Int32) then (jX8_takeHeader_69 (e_g S1 g)) else (if sm4 (biz I n) (p + 8) < (1 : Int32) then (jX8_takeHeader_69 (e_g S1 g)) else (if (24 : Int32) < sm4 (biz I n) (p + 8) then (jX8_takeHeader_69 (e_g S1 g)) else (if sm4 (biz I n) (p + 8 + 4) < (1 : Int32) then (jX8_takeHeader_69 (e_g S1 g)) else (if sm4 (biz I n) (p + 8 + 4) ≤ (24 : Int32) then (if ¬ (¬ biz I n (p + 8 + 8) = (8 : Int32)) ∧ (¬ ((6 : Int32) < biz I n (p + 8 + 9)) ∧ (¬ (biz I n (p + 8 + 9) = (1 : Int32)) ∧ (¬ biz I n (p + 8 + 9) = (5 : Int32)))) then (Option.bind (q_sI 8 6 (e_g S1 g) 125 (biz I n (p + 8 + 9))) fun g24 => Option.bind (q_ob 8 g24 125) fun u25 => Option.bind (fX8_byteAt g24 125 (Int32.ofNat (p + 8 + 10))) fun v26 => if ¬ v26 = 0 then (jX8_takeHeader_144 g24) else (Option.bind (q_ob 8 g24 125) fun u29 => Option.bind (fX8_byteAt g24 125 (Int32.ofNat (p + 8 + 11))) fun v30 => if ¬ v30 = 0 then (jX8_takeHeader_144 g24) else (Option.bind (q_ob 8 g24 125) fun u32 => Option.bind (fX8_byteAt g24 125 (Int32.ofNat (p + 8 + 12))) fun v33 => if ¬ v33 = 0 then (jX8_takeHeader_144 g24) else (jX8_takeHeader_145 g24 (1 : Int32))))) else (some ((0 : Int32), e_g S1 g))) else (jX8_takeHeader_69 (e_g S1 g)))))) := by
    unfold fX8_takeHeader
    rw [ob125, ob_n, a9, byte8 h (by omega), ob_n, ob_n, four8 h (by omega), ob_n, w125_4, ob_n, ob125, ob_n, a4, four8 dS (by omega), ob_n, w125_5, ob_n, ← eS1, f125_4, f4, ob_n, ob_n, f125_5, f5, ob_n, ob_n, ob125, ob_n, a8, byte8 d1 (by omega), ob_n, a10, a11, a12]
  clear eS1
  rw [pre]
  have no : ∀ {S : e_S}, K8 s S → ¬ hdK I p z → jX8_takeHeader_69 (e_g S g) = some (0, e_g S g) := fun _ _ => rfl
  have j144 : ∀ S : e_S, jX8_takeHeader_144 (e_g S g) = some (0, e_g S g) := fun S => by
    unfold jX8_takeHeader_144 jX8_takeHeader_145
    rw [b0, ob_n]
  have fin0 : ¬ hdK I p z → ∃ s' v, (some ((0 : Int32), e_g S1 g) : Option (Int32 × ps_G)) = some (v, e_g s' g) ∧ K8 s s' ∧ (hdK I p z → v = 1 ∧ s'.1 125 6 = I (p + 17) ∧ s'.1 125 4 = sm4 I (p + 8) ∧ s'.1 125 5 = sm4 I (p + 12) ∧ (∀ k, k = 8 ∨ k = 10 ∨ k = 11 → s'.1 125 k = s.1 125 k) ∧ s'.2.1 = s.2.1 ∧ s'.1 128 1 = s.1 128 1) ∧ (¬ hdK I p z → v = 0) := fun nh => ⟨S1, 0, rfl, k1, fun z => absurd z nh, fun _ => rfl⟩
  have c13 : Int32.ofNat z = (13 : Int32) ↔ z = 13 := n_eq (b := 13) (by omega) (by omega)
  by_cases q13 : z = 13
  · have e8 : sm4 (biz I n) (p + 8) = sm4 I (p + 8) := sm4_b (by omega)
    have e12 : sm4 (biz I n) (p + 8 + 4) = sm4 I (p + 12) := sm4_b (p := p + 12) (by omega)
    have e16 : biz I n (p + 8 + 8) = I (p + 16) := biz_i (p := p + 16) (by omega)
    have e17 : biz I n (p + 8 + 9) = I (p + 17) := biz_i (p := p + 17) (by omega)
    have e18 : biz I n (p + 8 + 10) = I (p + 18) := biz_i (p := p + 18) (by omega)
    have e19 : biz I n (p + 8 + 11) = I (p + 19) := biz_i (p := p + 19) (by omega)
    have e20 : biz I n (p + 8 + 12) = I (p + 20) := biz_i (p := p + 20) (by omega)
    have nlt : ∀ a b : Int32, ¬ a < b ↔ b ≤ a := fun a b => by rw [i_lt, i_le]; omega
    rw [if_neg (fun y => y (c13.mpr q13)), e8, e12, e16, e17]
    by_cases w1 : sm4 I (p + 8) < 1
    · rw [if_pos w1]
      exact fin0 (fun y => ((nlt _ _).mpr y.2.1.1) w1)
    · rw [if_neg w1]
      by_cases w2 : (24 : Int32) < sm4 I (p + 8)
      · rw [if_pos w2]
        exact fin0 (fun y => ((nlt _ _).mpr y.2.1.2) w2)
      · rw [if_neg w2]
        by_cases h1 : sm4 I (p + 12) < 1
        · rw [if_pos h1]
          exact fin0 (fun y => ((nlt _ _).mpr y.2.2.1.1) h1)
        · rw [if_neg h1]
          by_cases h2 : sm4 I (p + 12) ≤ 24
          · rw [if_pos h2]
            obtain ⟨x, hx, lx⟩ := rg_n (N := 255) (h.2.2.2.2 (p + 17) (by omega)) (by decide)
            have x6 : (6 : Int32) < Int32.ofNat x ↔ 6 < x := n_lt (n := 6) (by omega) (by omega)
            have xe : ∀ k : Nat, k < 100 → (Int32.ofNat x = Int32.ofNat k ↔ x = k) := fun k hk => n_eq (by omega) (by omega)
            have x0 : Int32.ofNat x = 0 ↔ x = 0 := xe 0 (by omega)
            have x1 : Int32.ofNat x = 1 ↔ x = 1 := xe 1 (by omega)
            have x2 : Int32.ofNat x = 2 ↔ x = 2 := xe 2 (by omega)
            have x3 : Int32.ofNat x = 3 ↔ x = 3 := xe 3 (by omega)
            have x4 : Int32.ofNat x = 4 ↔ x = 4 := xe 4 (by omega)
            have x5 : Int32.ofNat x = 5 ↔ x = 5 := xe 5 (by omega)
            have x6' : Int32.ofNat x = 6 ↔ x = 6 := xe 6 (by omega)
            have srt : (¬ ((6 : Int32) < I (p + 17)) ∧ (¬ (I (p + 17) = (1 : Int32)) ∧ (¬ I (p + 17) = (5 : Int32)))) ↔ (I (p + 17) = 0 ∨ I (p + 17) = 2 ∨ I (p + 17) = 3 ∨ I (p + 17) = 4 ∨ I (p + 17) = 6) := by
              rw [hx, x6, x1, x5, x0, x2, x3, x4, x6']
              omega
            by_cases q8 : I (p + 16) = 8
            · by_cases qs : ¬ ((6 : Int32) < I (p + 17)) ∧ (¬ (I (p + 17) = (1 : Int32)) ∧ (¬ I (p + 17) = (5 : Int32)))
              · have k2 : K8 s (sF S1 125 6 (I (p + 17))) := k8_tr k1 (k8_F (by decide))
                have d2 := dc_k h k2
                have r18 := byte8 (g := g) (i := p + 8 + 10) d2 (by omega)
                have r19 := byte8 (g := g) (i := p + 8 + 11) d2 (by omega)
                have r20 := byte8 (g := g) (i := p + 8 + 12) d2 (by omega)
                rw [e18] at r18
                rw [e19] at r19
                rw [e20] at r20
                rw [if_pos ⟨fun y => y q8, qs⟩, w125_6, ob_n, ob125, ob_n, r18, ob_n]
                have bad : ¬ hdK I p z → ∃ s' v, jX8_takeHeader_144 (e_g (sF S1 125 6 (I (p + 17))) g) = some (v, e_g s' g) ∧ K8 s s' ∧ (hdK I p z → v = 1 ∧ s'.1 125 6 = I (p + 17) ∧ s'.1 125 4 = sm4 I (p + 8) ∧ s'.1 125 5 = sm4 I (p + 12) ∧ (∀ k, k = 8 ∨ k = 10 ∨ k = 11 → s'.1 125 k = s.1 125 k) ∧ s'.2.1 = s.2.1 ∧ s'.1 128 1 = s.1 128 1) ∧ (¬ hdK I p z → v = 0) := fun nh => ⟨_, 0, j144 _, k2, fun z => absurd z nh, fun _ => rfl⟩
                by_cases z1 : I (p + 18) = 0
                · rw [if_neg (fun y => y z1), ob_n, r19, ob_n]
                  by_cases z2 : I (p + 19) = 0
                  · rw [if_neg (fun y => y z2), ob_n, r20, ob_n]
                    by_cases z3 : I (p + 20) = 0
                    · rw [if_neg (fun y => y z3)]
                      have ok : hdK I p z := ⟨q13, ⟨(nlt _ _).mp w1, (nlt _ _).mp w2⟩, ⟨(nlt _ _).mp h1, h2⟩, q8, srt.mp qs, z1, z2, z3⟩
                      refine ⟨sF S1 125 6 (I (p + 17)), 1, ?_, k2, fun _ => ⟨rfl, ?_, ?_, ?_, fun k hk => ?_, ?_, ?_⟩, fun y => absurd ok y⟩
                      · unfold jX8_takeHeader_145
                        rw [b1, ob_n]
                      · rw [F_sF, if_pos ⟨rfl, rfl⟩]
                      · rw [F_sF, if_neg (by decide), f4, e8]
                      · rw [F_sF, if_neg (by decide), f5, e12]
                      · rw [F_sF, if_neg (by omega), fk k hk]
                      · rw [A_sF, aA]
                      · rw [F_sF, if_neg (by decide), f1]
                    · rw [if_pos z3]
                      exact bad (fun y => z3 y.2.2.2.2.2.2.2)
                  · rw [if_pos z2]
                    exact bad (fun y => z2 y.2.2.2.2.2.2.1)
                · rw [if_pos z1]
                  exact bad (fun y => z1 y.2.2.2.2.2.1)
              · rw [if_neg (fun y => qs y.2)]
                exact fin0 (fun y => qs (srt.mpr y.2.2.2.2.1))
            · rw [if_neg (fun y => y.1 q8)]
              exact fin0 (fun y => q8 y.2.2.2.1)
          · rw [if_neg h2]
            exact fin0 (fun y => h2 y.2.2.1.2)
  · rw [if_pos (fun y => q13 (c13.mp y))]
    exact fin0 (fun y => q13 y.1)
