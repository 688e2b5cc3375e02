-- needs: 07 10 13 14 20 21 22 23 24 25 26 27 32 38 41 46 47 50 52 53 54 57 60 61 70 71 72 73 80 81 82
/-! ===== what is seen of one parent, in the reference ===== -/
def fsS {σ : Type} (P : Nat → Bool) (st : Nat → σ → σ) (z : σ) : Nat → σ
  | 0 => z
  | i + 1 => if P i then st i (fsS P st z i) else fsS P st z i
theorem fsS_t {σ : Type} {P : Nat → Bool} {st : Nat → σ → σ} {z : σ} {i : Nat} (h : P i = true) : fsS P st z (i + 1) = st i (fsS P st z i) := if_pos h
theorem fsS_f {σ : Type} {P : Nat → Bool} {st : Nat → σ → σ} {z : σ} {i : Nat} (h : ¬ P i = true) : fsS P st z (i + 1) = fsS P st z i := if_neg h
theorem fsS_d {σ : Type} {P : Nat → Bool} {st : Nat → σ → σ} {z : σ} {i : Nat} : ∀ m, cnt P i = cnt P (i + m) → fsS P st z i = fsS P st z (i + m)
  | 0, _ => rfl
  | m + 1, h => by
    have h1 : cnt P i ≤ cnt P (i + m) := cnt_mono (by omega)
    have h2 : cnt P (i + (m + 1)) = cnt P (i + m) + if P (i + m) then 1 else 0 := cnt_s
    have h3 : ¬ P (i + m) = true := fun q => by rw [if_pos q] at h2; omega
    rw [if_neg h3] at h2
    rw [fsS_d m (by omega)]
    exact (fsS_f h3).symm
theorem fsS_c {σ : Type} {P : Nat → Bool} {st : Nat → σ → σ} {z : σ} {i j : Nat} (h : cnt P i = cnt P j) : fsS P st z i = fsS P st z j := by
  by_cases q : i ≤ j
  · obtain ⟨m, rfl⟩ := Nat.le.dest q
    exact fsS_d m h
  · obtain ⟨m, rfl⟩ := Nat.le.dest (show j ≤ i by omega)
    exact (fsS_d m h.symm).symm
theorem child12 {s : e_S} {g : ps_G} {P Q : Int32} {l : Nat} (hl : l < 30) (h1 : s.2.1 142 (1169 * l) = 1) (h2 : s.2.1 142 (1169 * l + 2) = P) (h3 : s.2.1 142 (1169 * l + 3) = Q) (hu : ∀ m, m < l → s.2.1 142 (1169 * m) = 1 → s.2.1 142 (1169 * m + 2) = P → ¬ s.2.1 142 (1169 * m + 3) = Q) : fX12_child (e_g s g) 139 P Q = some (Int32.ofNat l) := by
  have loop : q_lp (fun t => bX12_child_2 (e_g s g) 139 P Q t) (0 : Int32) = some (.inr (Int32.ofNat l)) := by
    refine lp_0 (fun i => Int32.ofNat i) l rfl (fun i hi => ?_) ?_
    · have g2 : fX12_get (e_g s g) 139 (Int32.ofNat i) 2 = some (s.2.1 142 (1169 * i + 2)) := get12 (n := 2) (by omega) (by omega)
      have g3 : fX12_get (e_g s g) 139 (Int32.ofNat i) 3 = some (s.2.1 142 (1169 * i + 3)) := get12 (n := 3) (by omega) (by omega)
      show bX12_child_2 _ _ _ _ _ = _
      unfold bX12_child_2
      rw [if_neg (show ¬ (30 : Int32) ≤ Int32.ofNat i from nle (b := 30) (by omega) (by omega)), ob139, ob_n, isLayer12, ob_n, isL_o (by omega)]
      by_cases q1 : s.2.1 142 (1169 * i) = 1
      · rw [if_neg (by rw [decide_eq_true q1]; decide), ob_n, g2, ob_n]
        by_cases q2 : s.2.1 142 (1169 * i + 2) = P
        · rw [if_neg (fun z => z q2), ob_n, g3, ob_n, if_pos (hu i hi q1 q2)]
          exact congrArg (fun z => some (Sum.inl z)) n_suc
        · rw [if_pos q2]
          exact congrArg (fun z => some (Sum.inl z)) n_suc
      · rw [if_pos (by rw [decide_eq_false q1]; rfl)]
        exact congrArg (fun z => some (Sum.inl z)) n_suc
    · have g2 : fX12_get (e_g s g) 139 (Int32.ofNat l) 2 = some (s.2.1 142 (1169 * l + 2)) := get12 (n := 2) (by omega) (by omega)
      have g3 : fX12_get (e_g s g) 139 (Int32.ofNat l) 3 = some (s.2.1 142 (1169 * l + 3)) := get12 (n := 3) (by omega) (by omega)
      show bX12_child_2 _ _ _ _ _ = _
      unfold bX12_child_2
      rw [if_neg (show ¬ (30 : Int32) ≤ Int32.ofNat l from nle (b := 30) (by omega) (by omega)), ob139, ob_n, isLayer12, ob_n, isL_o (by omega), if_neg (by rw [decide_eq_true h1]; decide), ob_n, g2, ob_n, if_neg (fun z => z h2), ob_n, g3, ob_n, if_neg (fun z => z h3)]
  unfold fX12_child
  rw [loop, ob_n]
  rfl
/-- one LAYER of a parent -/
noncomputable def stS (s : e_S) (w h : Nat) (on al : Int32) (G : Nat → Nat → Int32) (l : Nat) (S : (Nat → Int32) × (Nat → Int32)) : (Nat → Int32) × (Nat → Int32) := if on = 0 ∨ Int32.ofNat l = s.1 139 19 ∨ Int32.ofNat l = s.1 139 20 then laS (aD s w h) w h (G l) (decide (¬ on = 0 ∨ ¬ lR (s.2.1 142) l 6 = 0)) (decide (al = 0 ∧ lR (s.2.1 142) l 7 = 1)) (if al = 0 then lR (s.2.1 142) l 5 else 0) (lR (s.2.1 142) l) S else S
noncomputable def cmF (s : e_S) (w h : Nat) (on al P : Int32) (G : Nat → Nat → Int32) (o : Nat → Nat) : Nat → (Nat → Int32) × (Nat → Int32) := fsS (chO (s.2.1 142) o P) (fun i S => stS s w h on al G (o i) S) (fun _ => 0, fun _ => 0)
theorem cmF_r {s : e_S} {w h sz : Nat} {on al P : Int32} {G : Nat → Nat → Int32} {od : Nat → Int32} {o : Nat → Nat} (hn : w * h ≤ 576) (ho : OrD (s.2.1 142) sz od o) (hrow : ∀ l, l < 30 → s.2.1 142 (1169 * l) = 1 → RwN (lR (s.2.1 142) l)) : ∀ i, i ≤ sz → ∀ k, k < w * h → rg ((cmF s w h on al P G o i).2 k) 0 255
  | 0, _, k, _ => by show rg 0 0 255 = true; decide
  | i + 1, hi, k, hk => by
    have ih := cmF_r (on := on) (al := al) (P := P) (G := G) hn ho hrow i (by omega)
    unfold cmF at ih ⊢
    by_cases q : chO (s.2.1 142) o P i = true
    · rw [fsS_t q]
      show rg ((stS s w h on al G (o i) _).2 k) 0 255 = true
      unfold stS
      split
      · have oi := ho.2.1 i (by omega)
        exact laS_r hn (hrow _ oi.2.1 oi.2.2) ih k hk
      · exact ih k hk
    · rw [fsS_f q]; exact ih k hk
theorem compose12 {s : e_S} {g : ps_G} {w h sz c : Nat} {on al P : Int32} {f e t u od : Nat → Int32} {o : Nat → Nat} (ht : TrN (s.2.1 142)) (ho : OrD (s.2.1 142) sz od o) (hrow : ∀ l, l < 30 → s.2.1 142 (1169 * l) = 1 → RwN (lR (s.2.1 142) l)) (hw1 : 1 ≤ w) (hh1 : 1 ≤ h) (hw : w ≤ 24) (hh : h ≤ 24) (e1 : s.1 139 13 = Int32.ofNat w) (e2 : s.1 139 14 = Int32.ofNat h) (hd : 0 < (s.1 139 25).toInt) (hC : CuN (s.2.1 152) (s.2.1 153) (s.2.1 154)) (hP : (576 : Int32) * (P + 1) = Int32.ofNat (576 * c)) (hc : c ≤ 30) (hself : ∀ l, l < 30 → s.2.1 142 (1169 * l) = 1 → s.2.1 142 (1169 * l + 2) = P → ¬ l + 1 = c) : ∃ e' t' u', fX12_compose (e_g (cs s f e t u) g) 139 P on al = some (e_g (cs s (cpT f (cmF s w h on al P (fun l k => f (576 * (l + 1) + k)) o sz).1 (576 * c) (w * h)) e' t' u') g) := by
  have hn := wh_le hw hh
  have hb : 576 * c ≤ 17280 := by omega
  have first : q_lp (fun x => bX12_compose_23 139 P on al (Int32.ofNat (576 * c)) (Int32.ofNat (w * h)) x.1 x.2) ((0 : Int32), e_g (cs s f e t u) g) = some (e_g (cs s (cpT f (fun _ => 0) (576 * c) (w * h)) e t u) g) := by
    refine fillN (fun F => e_g (cs s F e t u) g) (576 * c) (w * h) (fun _ => 0) f (fun F i hi _ => ?_) (fun F => ?_)
    · show bX12_compose_23 _ _ _ _ _ _ _ _ = _
      unfold bX12_compose_23
      rw [if_neg (nle hi (by omega)), f139_16, ob_n, ob_n, n_add, cs_u145 (by omega), ob_n, n_suc]
    · show bX12_compose_23 _ _ _ _ _ _ _ _ = _
      unfold bX12_compose_23
      rw [if_pos (nlr (by omega))]
  have mny : ∀ {F E T U}, fX12_many (e_g (cs s F E T U) g) 139 P = some (Int32.ofNat (cnt (chO (s.2.1 142) o P) sz)) := fun {F E T U} => by
    rw [many12, cs_A (by decide), cnt_many ho]
  have csz : cnt (chO (s.2.1 142) o P) sz ≤ 30 := Nat.le_trans cnt_le ho.1
  have plc := place_cnt ht ho
  have chi : ∀ {F E T U} i, i < sz → chO (s.2.1 142) o P i = true → fX12_child (e_g (cs s F E T U) g) 139 P (Int32.ofNat (cnt (chO (s.2.1 142) o P) i)) = some (Int32.ofNat (o i)) := fun {F E T U} i hi hch => by
    have oi := ho.2.1 i hi
    have hp : s.2.1 142 (1169 * o i + 2) = P := of_decide_eq_true hch
    have h3 := plc i hi
    rw [hp] at h3
    refine child12 oi.2.1 (by rw [cs_A (by decide)]; exact oi.2.2) (by rw [cs_A (by decide)]; exact hp) (by rw [cs_A (by decide)]; exact h3) (fun m hm q1 q2 q3 => ?_)
    rw [cs_A (by decide)] at q1 q2 q3
    obtain ⟨i', hi', rfl⟩ := ho.2.2.2.1 m (by omega) q1
    have h4 := plc i' hi'
    rw [q2, q3] at h4
    have c1 : cnt (chO (s.2.1 142) o P) i ≤ i := cnt_le
    have c2 : cnt (chO (s.2.1 142) o P) i' ≤ i' := cnt_le
    have := ho.1
    rw [n_eq (by omega) (by omega)] at h4
    have ch' : chO (s.2.1 142) o P i' = true := decide_eq_true q2
    rcases Nat.lt_trichotomy i i' with q | q | q
    · have a : cnt (chO (s.2.1 142) o P) (i + 1) ≤ cnt (chO (s.2.1 142) o P) i' := cnt_mono q
      rw [cnt_s, if_pos hch] at a; omega
    · subst q; omega
    · have a : cnt (chO (s.2.1 142) o P) (i' + 1) ≤ cnt (chO (s.2.1 142) o P) i := cnt_mono q
      rw [cnt_s, if_pos ch'] at a; omega
  have rR := cmF_r (s := s) (w := w) (h := h) (on := on) (al := al) (P := P) (G := fun l k => f (576 * (l + 1) + k)) hn ho hrow
  generalize hSS : cmF s w h on al P (fun l k => f (576 * (l + 1) + k)) o = SS at rR
  have SSt : ∀ i, chO (s.2.1 142) o P i = true → SS (i + 1) = stS s w h on al (fun l k => f (576 * (l + 1) + k)) (o i) (SS i) := fun i hi => by
    rw [← hSS]; exact fsS_t hi
  have SSc : ∀ i j, cnt (chO (s.2.1 142) o P) i = cnt (chO (s.2.1 142) o P) j → SS i = SS j := fun i j hij => by
    rw [← hSS]; exact fsS_c hij
  have SS0 : SS 0 = (fun _ => 0, fun _ => 0) := by rw [← hSS]; rfl
  -- one child
  have step : ∀ i, i < sz → chO (s.2.1 142) o P i = true → ∀ he F E T U, (∀ k, k < w * h → F (576 * c + k) = (SS i).1 k) → (∀ k, ¬ (576 * c ≤ k ∧ k < 576 * c + w * h) → F k = f k) → (∀ k, k < w * h → (if he = 0 then 0 else E (576 * c + k)) = (SS i).2 k) → ∃ he' F' E' T' U', bX12_compose_60 139 P on al (Int32.ofNat (576 * c)) (Int32.ofNat (w * h)) (Int32.ofNat (cnt (chO (s.2.1 142) o P) sz)) he (Int32.ofNat (cnt (chO (s.2.1 142) o P) i)) (e_g (cs s F E T U) g) = some (.inl (he', Int32.ofNat (cnt (chO (s.2.1 142) o P) i + 1), e_g (cs s F' E' T' U') g)) ∧ (∀ k, k < w * h → F' (576 * c + k) = (SS (i + 1)).1 k) ∧ (∀ k, ¬ (576 * c ≤ k ∧ k < 576 * c + w * h) → F' k = f k) ∧ (∀ k, k < w * h → (if he' = 0 then 0 else E' (576 * c + k)) = (SS (i + 1)).2 k) := by
    intro i hi hch he F E T U i1 i2 i3
    have oi := ho.2.1 i hi
    have hp : s.2.1 142 (1169 * o i + 2) = P := of_decide_eq_true hch
    have hr := hrow _ oi.2.1 oi.2.2
    have hsf := hself _ oi.2.1 oi.2.2 hp
    have hlt : cnt (chO (s.2.1 142) o P) i < cnt (chO (s.2.1 142) o P) sz := by
      have a : cnt (chO (s.2.1 142) o P) (i + 1) ≤ cnt (chO (s.2.1 142) o P) sz := cnt_mono hi
      rw [cnt_s, if_pos hch] at a; omega
    have rI := rR i (by omega)
    rw [SSt i hch]
    unfold bX12_compose_60
    rw [if_neg (nle hlt (by omega)), ob139, ob_n, chi i hi hch, ob_n]
    generalize cnt (chO (s.2.1 142) o P) sz = cN
    generalize cnt (chO (s.2.1 142) o P) i = j
    generalize SS i = S at i1 i3 rI
    have hl := oi.2.1
    generalize o i = l at hl hp hr hsf
    -- a LAYER that is laid
    have sel : ∃ he' F' E' T' U', jX12_compose_101_60 (e_g (cs s F E T U) g) 139 P on al (Int32.ofNat (576 * c)) (Int32.ofNat (w * h)) he (Int32.ofNat cN) (Int32.ofNat j) (Int32.ofNat l) = some (.inl (he', Int32.ofNat (j + 1), e_g (cs s F' E' T' U') g)) ∧ (∀ k, k < w * h → F' (576 * c + k) = (laS (aD s w h) w h (fun k => f (576 * (l + 1) + k)) (decide (¬ on = 0 ∨ ¬ lR (s.2.1 142) l 6 = 0)) (decide (al = 0 ∧ lR (s.2.1 142) l 7 = 1)) (if al = 0 then lR (s.2.1 142) l 5 else 0) (lR (s.2.1 142) l) S).1 k) ∧ (∀ k, ¬ (576 * c ≤ k ∧ k < 576 * c + w * h) → F' k = f k) ∧ (∀ k, k < w * h → (if he' = 0 then 0 else E' (576 * c + k)) = (laS (aD s w h) w h (fun k => f (576 * (l + 1) + k)) (decide (¬ on = 0 ∨ ¬ lR (s.2.1 142) l 6 = 0)) (decide (al = 0 ∧ lR (s.2.1 142) l 7 = 1)) (if al = 0 then lR (s.2.1 142) l 5 else 0) (lR (s.2.1 142) l) S).2 k) := by
      have g1 : ∀ {F E T U}, fX12_get (e_g (cs s F E T U) g) 139 (Int32.ofNat l) 1 = some (lR (s.2.1 142) l 1) := cs_get (n := 1) hl (by omega)
      have g6 : ∀ {F E T U}, fX12_get (e_g (cs s F E T U) g) 139 (Int32.ofNat l) 6 = some (lR (s.2.1 142) l 6) := cs_get (n := 6) hl (by omega)
      have g7 : ∀ {F E T U}, fX12_get (e_g (cs s F E T U) g) 139 (Int32.ofNat l) 7 = some (lR (s.2.1 142) l 7) := cs_get (n := 7) hl (by omega)
      have hd1 : jX12_compose_101_60 (e_g (cs s F E T U) g) 139 P on al (Int32.ofNat (576 * c)) (Int32.ofNat (w * h)) he (Int32.ofNat cN) (Int32.ofNat j) (Int32.ofNat l) = jX12_compose_122_60 (e_g (cs s F E T U) g) 139 P on al (Int32.ofNat (576 * c)) (Int32.ofNat (w * h)) he (Int32.ofNat cN) (Int32.ofNat j) (Int32.ofNat l) (if al = 0 ∧ lR (s.2.1 142) l 7 = 1 then 1 else 0) := by
        unfold jX12_compose_101_60 jX12_compose_121_60
        by_cases q : al = 0
        · rw [if_neg (fun z => z q), ob139, ob_n, g7, ob_n]
          by_cases q2 : lR (s.2.1 142) l 7 = 1
          · rw [if_neg (fun z => z q2), if_pos ⟨q, q2⟩]
          · rw [if_pos q2, if_neg (fun z => q2 z.2)]
        · rw [if_pos q, if_neg (fun z => q z.1)]
      rw [hd1]
      generalize hk0 : (if al = 0 ∧ lR (s.2.1 142) l 7 = 1 then (1 : Int32) else 0) = k0
      have hcl : decide (al = 0 ∧ lR (s.2.1 142) l 7 = 1) = decide (¬ k0 = 0) := by
        rw [← hk0]
        by_cases q : al = 0 ∧ lR (s.2.1 142) l 7 = 1
        · rw [if_pos q, decide_eq_true q]; rfl
        · rw [if_neg q, decide_eq_false q]; rfl
      rw [hcl]
      have cvE : ∀ k, k < w * h → cvC k0 he E (576 * c) k = ovE (decide (¬ k0 = 0)) S.2 k := by
        intro k hk
        unfold cvC ovE
        by_cases q : k0 = 0
        · rw [if_pos q, if_neg (by rw [decide_eq_true_iff]; exact fun z => z q)]
        · rw [if_neg q, if_pos (decide_eq_true q)]; exact i3 k hk
      have cvR : ∀ k, k < w * h → rg (cvC k0 he E (576 * c) k) 0 255 := fun k hk => by
        rw [cvE k hk]; exact ov_r (rI k hk)
      unfold jX12_compose_122_60
      rw [ob139, ob_n, g1, ob_n]
      have laid : ∃ he' F' E' T' U', jX12_compose_159_60 (e_g (cs s F E T U) g) 139 P on al (Int32.ofNat (576 * c)) (Int32.ofNat (w * h)) he (Int32.ofNat cN) (Int32.ofNat j) (Int32.ofNat l) k0 (lR (s.2.1 142) l 1) = some (.inl (he', Int32.ofNat (j + 1), e_g (cs s F' E' T' U') g)) ∧ (∀ k, k < w * h → F' (576 * c + k) = (laS (aD s w h) w h (fun k => f (576 * (l + 1) + k)) true (decide (¬ k0 = 0)) (if al = 0 then lR (s.2.1 142) l 5 else 0) (lR (s.2.1 142) l) S).1 k) ∧ (∀ k, ¬ (576 * c ≤ k ∧ k < 576 * c + w * h) → F' k = f k) ∧ (∀ k, k < w * h → (if he' = 0 then 0 else E' (576 * c + k)) = (laS (aD s w h) w h (fun k => f (576 * (l + 1) + k)) true (decide (¬ k0 = 0)) (if al = 0 then lR (s.2.1 142) l 5 else 0) (lR (s.2.1 142) l) S).2 k) := by
        unfold jX12_compose_159_60 laS
        rw [if_neg (show ¬ true = false by decide)]
        by_cases q3 : 3 < lR (s.2.1 142) l 1
        · obtain ⟨t', u', hl1⟩ := lay12 (s := s) (g := g) (w := w) (h := h) (l := l) (b := 576 * c) (cl := k0) (he := he) (f := F) (e := E) (t := T) (u := U) hl hr q3 hw1 hh1 hw hh e1 e2 hd hC hb
          have q4 : (4 : Int32) ≤ lR (s.2.1 142) l 1 := by
            rw [i_lt, show (3 : Int32).toInt = 3 from rfl] at q3
            rw [i_le, show (4 : Int32).toInt = 4 from rfl]; omega
          rw [if_neg (show ¬ lR (s.2.1 142) l 1 ≤ 3 by rw [i_le]; rw [i_lt] at q3; omega), ob139, ob_n, hl1, ob_n, if_pos q3]
          unfold jX12_compose_195_60 jX12_compose_213_60
          rw [n_suc, if_pos q4]
          refine ⟨_, _, _, _, _, rfl, fun k hk => ?_, fun k hk => ?_, fun k hk => ?_⟩
          · rw [cpT_in hk]
            show _ = fX11_mixColours _ _ _
            have ea : aD s w h (lR (s.2.1 142) l) (fun k => F (576 * c + k)) k = aD s w h (lR (s.2.1 142) l) S.1 k := ad_c hw1 hh1 i1 hk
            rw [i1 k hk, ea, cvE k hk]
          · rw [cpT_out hk]; exact i2 k hk
          · by_cases z : k0 = 0
            · have zz : ¬ ¬ k0 = 0 := fun y => y z
              rw [if_neg zz, if_pos rfl, decide_eq_false zz]; rfl
            · rw [if_pos z, decide_eq_true z]; exact i3 k hk
        · have hl1 := layOver12 (s := s) (g := g) (w := w) (h := h) (l := l) (b := 576 * c) (cl := k0) (he := he) (al := al) (f := F) (e := E) (t := T) (u := U) hl hr q3 hw1 hw hh e1 e2 hb (fun _ => by omega) cvR
          have q4 : ¬ (4 : Int32) ≤ lR (s.2.1 142) l 1 := by
            rw [i_lt, show (3 : Int32).toInt = 3 from rfl] at q3
            rw [i_le, show (4 : Int32).toInt = 4 from rfl]; omega
          rw [if_pos (show lR (s.2.1 142) l 1 ≤ 3 by rw [i_le]; rw [i_lt] at q3; omega), ob139, ob_n, hl1, ob_n, if_neg q3]
          unfold jX12_compose_195_60 jX12_compose_213_60
          rw [n_suc, if_neg q4, Nat.mul_comm h w]
          have G1 : ∀ k, k < w * h → F (576 * (l + 1) + k) = f (576 * (l + 1) + k) := fun k hk => i2 _ (by omega)
          have eco : ∀ k, k < w * h → coV w h (fun k => F (576 * (l + 1) + k)) (lR (s.2.1 142) l) k = coV w h (fun k => f (576 * (l + 1) + k)) (lR (s.2.1 142) l) k := fun k hk => by
            unfold coV
            dsimp only
            rw [G1 k hk]
          have eex : ∀ k, k < w * h → exV w h (fun k => F (576 * (l + 1) + k)) (lR (s.2.1 142) l) (cvC k0 he E (576 * c)) k = exV w h (fun k => f (576 * (l + 1) + k)) (lR (s.2.1 142) l) (ovE (decide (¬ k0 = 0)) S.2) k := fun k hk => by
            unfold exV
            rw [eco k hk, cvE k hk]
          refine ⟨_, _, _, _, _, rfl, fun k hk => ?_, fun k hk => ?_, fun k hk => ?_⟩
          · rw [cpT_in hk]
            show _ = blV _ _ _ _
            rw [i1 k hk, eco k hk, eex k hk]
          · rw [cpT_out hk]; exact i2 k hk
          · by_cases z : k0 = 0
            · have zz : ¬ ¬ k0 = 0 := fun y => y z
              rw [if_neg zz, if_neg (by decide), if_pos z, cpT_in hk, eex k hk]
              rw [decide_eq_false zz]; rfl
            · rw [if_pos z, if_neg z, decide_eq_true z]; exact i3 k hk
      by_cases q1 : on = 0
      · rw [if_neg (fun z => z q1), ob_n, g6, ob_n]
        by_cases q2 : lR (s.2.1 142) l 6 = 0
        · rw [if_neg (fun z => z q2), decide_eq_false (show ¬ (¬ on = 0 ∨ ¬ lR (s.2.1 142) l 6 = 0) by rw [not_or]; exact ⟨fun z => z q1, fun z => z q2⟩)]
          unfold jX12_compose_213_60 laS
          rw [n_suc, if_pos rfl]
          refine ⟨_, F, E, T, U, rfl, i1, i2, fun k hk => ?_⟩
          by_cases z : k0 = 0
          · have zz : ¬ ¬ k0 = 0 := fun y => y z
            rw [if_neg zz, if_pos rfl, decide_eq_false zz]; rfl
          · rw [if_pos z, decide_eq_true z]; exact i3 k hk
        · rw [if_pos q2, decide_eq_true (show ¬ on = 0 ∨ ¬ lR (s.2.1 142) l 6 = 0 from Or.inr q2)]
          exact laid
      · rw [if_pos q1, decide_eq_true (show ¬ on = 0 ∨ ¬ lR (s.2.1 142) l 6 = 0 from Or.inl q1)]
        exact laid
    unfold stS
    by_cases q : on = 0
    · rw [if_pos q, if_pos (Or.inl q)]; exact sel
    rw [if_neg q, f139_19, cs_F, ob_n]
    by_cases qa : Int32.ofNat l = s.1 139 19
    · rw [if_pos qa, if_pos (Or.inr (Or.inl qa))]; exact sel
    rw [if_neg qa, f139_20, cs_F, ob_n]
    by_cases qb : Int32.ofNat l = s.1 139 20
    · rw [if_pos qb, if_pos (Or.inr (Or.inr qb))]; exact sel
    rw [if_neg qb, if_neg (fun z => z.elim q (fun z => z.elim qa qb))]
    unfold jX12_compose_213_60
    rw [n_suc]
    exact ⟨he, F, E, T, U, rfl, i1, i2, i3⟩
  obtain ⟨r', q1, E', T', U', q2⟩ := lp_n (b := fun x => bX12_compose_60 139 P on al (Int32.ofNat (576 * c)) (Int32.ofNat (w * h)) (Int32.ofNat (cnt (chO (s.2.1 142) o P) sz)) x.1 x.2.1 x.2.2) (fun j x => ∃ i he F E T U, i ≤ sz ∧ cnt (chO (s.2.1 142) o P) i = j ∧ x = (he, Int32.ofNat j, e_g (cs s F E T U) g) ∧ (∀ k, k < w * h → F (576 * c + k) = (SS i).1 k) ∧ (∀ k, ¬ (576 * c ≤ k ∧ k < 576 * c + w * h) → F k = f k) ∧ (∀ k, k < w * h → (if he = 0 then 0 else E (576 * c + k)) = (SS i).2 k)) (fun x => ∃ E T U, x = e_g (cs s (cpT f (SS sz).1 (576 * c) (w * h)) E T U) g) (cnt (chO (s.2.1 142) o P) sz) (fun j x hj hx => by
      obtain ⟨i, he, F, E, T, U, hi, hcj, rfl, i1, i2, i3⟩ := hx
      obtain ⟨i', hi', hch, hc'⟩ := cnt_hit hj
      have eS := SSc i i' (by omega)
      obtain ⟨he', F', E', T', U', b1, b2, b3, b4⟩ := step i' hi' hch he F E T U (by rw [← eS]; exact i1) i2 (by rw [← eS]; exact i3)
      rw [hc'] at b1
      exact ⟨_, b1, i' + 1, he', F', E', T', U', hi', by rw [cnt_s, if_pos hch, hc'], rfl, b2, b3, b4⟩) (fun x hx => by
      obtain ⟨i, he, F, E, T, U, hi, hcj, rfl, i1, i2, i3⟩ := hx
      refine ⟨e_g (cs s F E T U) g, ?_, E, T, U, ?_⟩
      · show bX12_compose_60 _ _ _ _ _ _ _ _ _ _ = _
        unfold bX12_compose_60
        rw [if_pos (nlr (by omega))]
      · have : F = cpT f (SS sz).1 (576 * c) (w * h) := by
          funext k
          by_cases q : 576 * c ≤ k ∧ k < 576 * c + w * h
          · rw [cpT_ge q.1 q.2, ← SSc i sz hcj, ← i1 (k - 576 * c) (by omega)]
            congr 1; omega
          · rw [cpT_out q, i2 k q]
        rw [this]) (s := ((0 : Int32), (0 : Int32), e_g (cs s (cpT f (fun _ => 0) (576 * c) (w * h)) e t u) g)) ⟨0, 0, _, e, t, u, by omega, rfl, rfl, fun k hk => by rw [cpT_in hk, SS0], fun k hk => cpT_out hk, fun k hk => by rw [if_pos rfl, SS0]⟩
  refine ⟨E', T', U', ?_⟩
  unfold fX12_compose
  rw [f139_13, cs_F, e1, ob_n, f139_14, cs_F, e2, ob_n, hP, n_mul, first, ob_n, ob139, ob_n, mny, ob_n, q1, q2, ob_n]
