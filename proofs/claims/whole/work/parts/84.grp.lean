-- needs: 07 10 13 14 20 21 22 23 24 25 26 27 32 38 41 46 47 50 52 53 54 57 60 61 70 71 72 73 80 81 82 83
/-! ===== what is seen of all, in the reference ===== -/
def dpF (N : Nat → Int32) : Nat → Nat → Nat
  | 0, _ => 0
  | n + 1, l => if N (1169 * l + 2) = -1 then 0 else dpF N n (N (1169 * l + 2)).toInt.toNat + 1
def dpN (N : Nat → Int32) (l : Nat) : Nat := dpF N 30 l
theorem par_c {N : Nat → Int32} {l : Nat} (ht : TrN N) (hl : l < 30) (h1 : N (1169 * l) = 1) : N (1169 * l + 2) = -1 ∨ ∃ p : Nat, p < 30 ∧ N (1169 * l + 2) = Int32.ofNat p ∧ N (1169 * p) = 1 ∧ N (1169 * p + 1) = 1 := ht.2.2.1 l hl h1
theorem n_m1 {p : Nat} (hp : p < 30) : ¬ Int32.ofNat p = -1 := by
  intro e
  have := congrArg Int32.toInt e
  rw [n_int (by omega)] at this
  have e2 : (-1 : Int32).toInt = -1 := by decide
  omega
theorem dpF_st {N : Nat → Int32} {d : Nat → Nat} (ht : TrN N) (hd : Rk N d) : ∀ n m l, l < 30 → N (1169 * l) = 1 → d l < n → d l < m → dpF N n l = dpF N m l ∧ dpF N n l ≤ d l
  | 0, _, _, _, _, h, _ => absurd h (by omega)
  | n + 1, 0, _, _, _, _, h => absurd h (by omega)
  | n + 1, m + 1, l, hl, h1, hn, hm => by
    rcases par_c ht hl h1 with e | ⟨p, hp, e, p1, _⟩
    · have a : ∀ q, dpF N (q + 1) l = 0 := fun q => if_pos e
      rw [a, a]; exact ⟨rfl, by omega⟩
    · have a : ∀ q, dpF N (q + 1) l = dpF N q p + 1 := fun q => by
        show (if N (1169 * l + 2) = -1 then 0 else _) = _
        rw [e, if_neg (n_m1 hp), n_int (by omega), Int.toNat_natCast]
      have hdp := hd.2 l hl h1 p hp e
      have ih := dpF_st ht hd n m p hp p1 (by omega) (by omega)
      rw [a, a, ih.1]
      exact ⟨rfl, by have := ih.2; rw [ih.1] at this; omega⟩
theorem dp_all {N : Nat → Int32} (ht : TrN N) : (∀ l, l < 30 → N (1169 * l) = 1 → dpN N l < 30) ∧ (∀ l, l < 30 → N (1169 * l) = 1 → N (1169 * l + 2) = -1 → dpN N l = 0) ∧ ∀ l p, l < 30 → N (1169 * l) = 1 → p < 30 → N (1169 * l + 2) = Int32.ofNat p → N (1169 * p) = 1 ∧ N (1169 * p + 1) = 1 ∧ dpN N l = dpN N p + 1 := by
  obtain ⟨d, hd⟩ : ∃ d, Rk N d := trN_rk ht
  refine ⟨fun l hl h1 => ?_, fun l hl h1 e => if_pos e, fun l p hl h1 hp e => ?_⟩
  · have := (dpF_st ht hd 30 30 l hl h1 (hd.1 l hl h1) (hd.1 l hl h1)).2
    have := hd.1 l hl h1
    unfold dpN; omega
  · rcases par_c ht hl h1 with e' | ⟨p', hp', e', p1, p2⟩
    · exact absurd (e.symm.trans e') (n_m1 hp)
    have : p = p' := (n_eq (by omega) (by omega)).mp (e.symm.trans e')
    subst this
    refine ⟨p1, p2, ?_⟩
    have hdp := hd.2 l hl h1 p hp e
    have hdl := hd.1 l hl h1
    have a : dpN N l = dpF N 29 p + 1 := by
      show (if N (1169 * l + 2) = -1 then 0 else _) = _
      rw [e, if_neg (n_m1 hp), n_int (by omega), Int.toNat_natCast]
    rw [a, (dpF_st ht hd 29 30 p hp p1 (by omega) (by omega)).1]; rfl
theorem depthOf12 {s : e_S} {g : ps_G} {l : Nat} (ht : TrN (s.2.1 142)) (hl : l < 30) (h1 : s.2.1 142 (1169 * l) = 1) : fX12_depthOf (e_g s g) 139 (Int32.ofNat l) = some (Int32.ofNat (dpN (s.2.1 142) l)) := by
  have dp := dp_all ht
  have key : ∀ n l c, l < 30 → s.2.1 142 (1169 * l) = 1 → dpN (s.2.1 142) l < n → q_lp (fun t => bX12_depthOf_9 (e_g s g) 139 t.1 t.2) (Int32.ofNat c, s.2.1 142 (1169 * l + 2)) = some (Int32.ofNat (c + dpN (s.2.1 142) l)) := by
    intro n
    induction n with
    | zero => intro l c _ _ h; omega
    | succ n ih =>
      intro l c hl h1 hn
      rcases par_c ht hl h1 with e | ⟨p, hp, e, p1, _⟩
      · rw [dp.2.1 l hl h1 e, e]
        exact lp_end (by show bX12_depthOf_9 _ _ _ _ = _; unfold bX12_depthOf_9; rw [if_pos (show (-1 : Int32) < 0 by decide)]; rfl)
      · have e3 := (dp.2.2 l p hl h1 hp e).2.2
        have g2 : fX12_get (e_g s g) 139 (Int32.ofNat p) 2 = some (s.2.1 142 (1169 * p + 2)) := get12 (n := 2) hp (by omega)
        rw [e, lp_go (s' := (Int32.ofNat (c + 1), s.2.1 142 (1169 * p + 2))) (by
          show bX12_depthOf_9 _ _ _ _ = _
          unfold bX12_depthOf_9
          rw [if_neg (n_neg (by omega)), ob139, ob_n, g2, ob_n, n_suc]), ih p (c + 1) hp p1 (by omega), e3]
        congr 2; omega
  have g2 : fX12_get (e_g s g) 139 (Int32.ofNat l) 2 = some (s.2.1 142 (1169 * l + 2)) := get12 (n := 2) hl (by omega)
  have k := key 30 l 0 hl h1 (dp.1 l hl h1)
  rw [Nat.zero_add] at k
  unfold fX12_depthOf
  rw [ob139, ob_n, g2, ob_n]
  show Option.bind (q_lp (fun t => bX12_depthOf_9 (e_g s g) 139 t.1 t.2) (Int32.ofNat 0, s.2.1 142 (1169 * l + 2))) _ = _
  rw [k, ob_n]
theorem isG12 {s : e_S} {g : ps_G} {l : Nat} {K : Int32} (hl : l < 30) : fX12_is (e_g s g) 139 (Int32.ofNat l) K = some (if s.2.1 142 (1169 * l) = 1 ∧ s.2.1 142 (1169 * l + 1) = K then 1 else 0) := by
  have g1 : fX12_get (e_g s g) 139 (Int32.ofNat l) 1 = some (s.2.1 142 (1169 * l + 1)) := get12 (n := 1) hl (by omega)
  unfold fX12_is
  rw [ob139, ob_n, isLayer12, ob_n, isL_o hl]
  by_cases q : s.2.1 142 (1169 * l) = 1
  · rw [if_neg (by rw [decide_eq_true q]; decide), ob_n, g1, ob_n]
    by_cases q2 : s.2.1 142 (1169 * l + 1) = K
    · rw [if_neg (fun z => z q2), if_pos ⟨q, q2⟩]; rfl
    · rw [if_pos q2, if_neg (fun z => q2 z.2)]; rfl
  · rw [if_pos (by rw [decide_eq_false q]; rfl), if_neg (fun z => q z.1)]; rfl
/-- what composing needs -/
def CpOk (s : e_S) (w h sz : Nat) (od : Nat → Int32) (o : Nat → Nat) : Prop := TrN (s.2.1 142) ∧ OrD (s.2.1 142) sz od o ∧ (∀ l, l < 30 → s.2.1 142 (1169 * l) = 1 → RwN (lR (s.2.1 142) l)) ∧ 1 ≤ w ∧ 1 ≤ h ∧ w ≤ 24 ∧ h ≤ 24 ∧ s.1 139 13 = Int32.ofNat w ∧ s.1 139 14 = Int32.ofNat h ∧ 0 < (s.1 139 25).toInt ∧ CuN (s.2.1 152) (s.2.1 153) (s.2.1 154)
noncomputable def vwF (s : e_S) (w h sz : Nat) (o : Nat → Nat) : Nat → Int32 → Nat → Int32
  | 0, _ => fun _ => 0
  | m + 1, P => (cmF s w h 0 0 P (fun l => vwF s w h sz o m (Int32.ofNat l)) o sz).1
theorem cmF_c {s : e_S} {w h sz : Nat} {on al P : Int32} {G G' : Nat → Nat → Int32} {o : Nat → Nat} (hw : 1 ≤ w) (hh : 1 ≤ h) (hG : ∀ i, i < sz → chO (s.2.1 142) o P i = true → s.2.1 142 (1169 * o i + 1) = 1 → ∀ k, k < w * h → G (o i) k = G' (o i) k) : ∀ i, i ≤ sz → (∀ k, k < w * h → (cmF s w h on al P G o i).1 k = (cmF s w h on al P G' o i).1 k) ∧ ∀ k, k < w * h → (cmF s w h on al P G o i).2 k = (cmF s w h on al P G' o i).2 k
  | 0, _ => ⟨fun _ _ => rfl, fun _ _ => rfl⟩
  | i + 1, hi => by
    have ih := cmF_c (on := on) (al := al) hw hh hG i (by omega)
    unfold cmF at ih ⊢
    by_cases q : chO (s.2.1 142) o P i = true
    · rw [fsS_t q, fsS_t q]
      show (∀ k, k < w * h → (stS s w h on al G (o i) _).1 k = (stS s w h on al G' (o i) _).1 k) ∧ ∀ k, k < w * h → (stS s w h on al G (o i) _).2 k = (stS s w h on al G' (o i) _).2 k
      unfold stS
      split
      · exact laS_c (fun V V' e k hk => ad_c hw hh e hk) (fun e => hG i (by omega) q e) ih.1 ih.2
      · exact ih
    · rw [fsS_f q, fsS_f q]; exact ih
theorem vwF_st {s : e_S} {w h sz : Nat} {od : Nat → Int32} {o : Nat → Nat} (hk : CpOk s w h sz od o) : ∀ n m l, l < 30 → s.2.1 142 (1169 * l) = 1 → 30 ≤ n + dpN (s.2.1 142) l → 30 ≤ m + dpN (s.2.1 142) l → ∀ k, k < w * h → vwF s w h sz o n (Int32.ofNat l) k = vwF s w h sz o m (Int32.ofNat l) k
  | 0, _, l, hl, h1, hn, _, _, _ => absurd hn (by have := (dp_all hk.1).1 l hl h1; omega)
  | n + 1, 0, l, hl, h1, _, hm, _, _ => absurd hm (by have := (dp_all hk.1).1 l hl h1; omega)
  | n + 1, m + 1, l, hl, h1, hn, hm, k, hkk => by
    refine (cmF_c (on := 0) (al := 0) hk.2.2.2.1 hk.2.2.2.2.1 (fun i hi hch _ => ?_) sz (Nat.le_refl _)).1 k hkk
    have oi := hk.2.1.2.1 i hi
    have e := ((dp_all hk.1).2.2 (o i) l oi.2.1 oi.2.2 hl (of_decide_eq_true hch)).2.2
    exact vwF_st hk n m (o i) oi.2.1 oi.2.2 (by omega) (by omega)
theorem groups12 {s : e_S} {g : ps_G} {w h sz : Nat} {od : Nat → Int32} {o : Nat → Nat} (hk : CpOk s w h sz od o) : ∃ F E T U, fX12_composeGroups (e_g s g) 139 = some (e_g (cs s F E T U) g) ∧ ∀ l, l < 30 → s.2.1 142 (1169 * l) = 1 → s.2.1 142 (1169 * l + 1) = 1 → ∀ k, k < w * h → F (576 * (l + 1) + k) = vwF s w h sz o 30 (Int32.ofNat l) k := by
  obtain ⟨ht, ho, hrow, hw1, hh1, hw, hh, e1, e2, hd, hC⟩ := id hk
  have hn := wh_le hw hh
  have dp := dp_all ht
  have inner : ∀ d, d < 30 → ∀ F E T U, (∀ l, l < 30 → s.2.1 142 (1169 * l) = 1 → s.2.1 142 (1169 * l + 1) = 1 → d < dpN (s.2.1 142) l → ∀ k, k < w * h → F (576 * (l + 1) + k) = vwF s w h sz o 30 (Int32.ofNat l) k) → ∃ r, q_lp (fun x => bX12_composeGroups_9 139 (Int32.ofNat d) x.1 x.2) ((0 : Int32), e_g (cs s F E T U) g) = some r ∧ ∃ F' E' T' U', r = e_g (cs s F' E' T' U') g ∧ ∀ l, l < 30 → s.2.1 142 (1169 * l) = 1 → s.2.1 142 (1169 * l + 1) = 1 → d ≤ dpN (s.2.1 142) l → ∀ k, k < w * h → F' (576 * (l + 1) + k) = vwF s w h sz o 30 (Int32.ofNat l) k := by
    intro d hd30 F E T U hF
    refine lp_n (fun i x => ∃ F E T U, x = (Int32.ofNat i, e_g (cs s F E T U) g) ∧ ∀ l, l < 30 → s.2.1 142 (1169 * l) = 1 → s.2.1 142 (1169 * l + 1) = 1 → d < dpN (s.2.1 142) l ∨ (d = dpN (s.2.1 142) l ∧ l < i) → ∀ k, k < w * h → F (576 * (l + 1) + k) = vwF s w h sz o 30 (Int32.ofNat l) k) _ 30 (fun i x hi hx => ?_) (fun x hx => ?_) ⟨F, E, T, U, rfl, fun l hl h1 h2 hq => hF l hl h1 h2 (by omega)⟩
    · obtain ⟨F, E, T, U, rfl, hQ⟩ := hx
      have isx := isG12 (s := cs s F E T U) (g := g) (l := i) (K := 1) hi
      rw [cs_A (by decide)] at isx
      show ∃ s', bX12_composeGroups_9 _ _ _ _ = _ ∧ _
      unfold bX12_composeGroups_9 jX12_composeGroups_40_9
      rw [if_neg (show ¬ (30 : Int32) ≤ Int32.ofNat i from nle (b := 30) hi (by omega)), ob139, ob_n, isx, ob_n, n_suc]
      by_cases q : s.2.1 142 (1169 * i) = 1 ∧ s.2.1 142 (1169 * i + 1) = 1
      · have dx := depthOf12 (s := cs s F E T U) (g := g) (l := i) (by rw [cs_A (by decide)]; exact ht) hi (by rw [cs_A (by decide)]; exact q.1)
        rw [cs_A (by decide)] at dx
        have dpi := dp.1 i hi q.1
        rw [if_pos q, if_neg (by decide), ob_n, dx, ob_n]
        by_cases q2 : dpN (s.2.1 142) i = d
        · obtain ⟨E', T', U', cx⟩ := compose12 (s := s) (g := g) (w := w) (h := h) (sz := sz) (c := i + 1) (on := 0) (al := 0) (P := Int32.ofNat i) (f := F) (e := E) (t := T) (u := U) ht ho hrow hw1 hh1 hw hh e1 e2 hd hC (by
            show Int32.ofNat 576 * _ = _
            rw [n_suc, n_mul]) (by omega) (fun l hl h1 h2 => by
              have := (dp.2.2 l i hl h1 hi h2).2.2
              intro e
              have : l = i := by omega
              subst this; omega)
          rw [if_neg (show ¬ ¬ Int32.ofNat (dpN (s.2.1 142) i) = Int32.ofNat d by rw [q2]; exact fun z => z rfl), ob_n, show fX12_compose (Int32.ofNat i, e_g (cs s F E T U) g).snd 139 (Int32.ofNat i, e_g (cs s F E T U) g).fst 0 0 = _ from cx, ob_n]
          refine ⟨_, rfl, _, E', T', U', rfl, fun l hl h1 h2 hq k hkk => ?_⟩
          by_cases li : l = i
          · subst li
            rw [cpT_in hkk]
            refine (cmF_c (on := 0) (al := 0) hw1 hh1 (fun j hj hch hg k hkk => ?_) sz (Nat.le_refl _)).1 k hkk
            have oj := ho.2.1 j hj
            have e := (dp.2.2 (o j) l oj.2.1 oj.2.2 hl (of_decide_eq_true hch)).2.2
            rw [hQ (o j) oj.2.1 oj.2.2 hg (by omega) k hkk]
            exact vwF_st hk 30 29 (o j) oj.2.1 oj.2.2 (by omega) (by omega) k hkk
          · rw [cpT_out (by omega)]
            exact hQ l hl h1 h2 (by omega) k hkk
        · rw [if_pos (show ¬ Int32.ofNat (dpN (s.2.1 142) i) = Int32.ofNat d by rw [n_eq (by omega) (by omega)]; exact q2)]
          refine ⟨_, rfl, F, E, T, U, rfl, fun l hl h1 h2 hq => hQ l hl h1 h2 ?_⟩
          rcases hq with z | ⟨z, z2⟩
          · exact Or.inl z
          · refine Or.inr ⟨z, ?_⟩
            by_cases li : l = i
            · subst li; exact absurd z.symm q2
            · omega
      · rw [if_neg q, if_pos rfl]
        refine ⟨_, rfl, F, E, T, U, rfl, fun l hl h1 h2 hq => hQ l hl h1 h2 ?_⟩
        rcases hq with z | ⟨z, z2⟩
        · exact Or.inl z
        · refine Or.inr ⟨z, ?_⟩
          by_cases li : l = i
          · subst li; exact absurd ⟨h1, h2⟩ q
          · omega
    · obtain ⟨F, E, T, U, rfl, hQ⟩ := hx
      refine ⟨e_g (cs s F E T U) g, ?_, F, E, T, U, rfl, fun l hl h1 h2 hq => hQ l hl h1 h2 (by omega)⟩
      show bX12_composeGroups_9 _ _ _ _ = _
      unfold bX12_composeGroups_9
      rw [if_pos (show (30 : Int32) ≤ Int32.ofNat 30 by decide)]
  have outer := lp_n (b := fun x => bX12_composeGroups_3 139 x.1 x.2) (fun i x => ∃ F E T U, x = ((29 : Int32) - Int32.ofNat i, e_g (cs s F E T U) g) ∧ ∀ l, l < 30 → s.2.1 142 (1169 * l) = 1 → s.2.1 142 (1169 * l + 1) = 1 → 30 ≤ dpN (s.2.1 142) l + i → ∀ k, k < w * h → F (576 * (l + 1) + k) = vwF s w h sz o 30 (Int32.ofNat l) k) (fun r => ∃ F E T U, r = e_g (cs s F E T U) g ∧ ∀ l, l < 30 → s.2.1 142 (1169 * l) = 1 → s.2.1 142 (1169 * l + 1) = 1 → ∀ k, k < w * h → F (576 * (l + 1) + k) = vwF s w h sz o 30 (Int32.ofNat l) k) 30 (fun i x hi hx => ?_) (fun x hx => ?_) (s := ((29 : Int32), e_g s g)) ⟨s.2.1 145, s.2.1 146, s.2.1 147, s.2.1 151, by rw [cs_id]; rfl, fun l hl h1 _ hq => absurd hq (by have := dp.1 l hl h1; omega)⟩
  · obtain ⟨r, h1, F, E, T, U, h2, h3⟩ := outer
    refine ⟨F, E, T, U, ?_, h3⟩
    unfold fX12_composeGroups
    rw [h1, h2, ob_n]
  · obtain ⟨F, E, T, U, rfl, hQ⟩ := hx
    have ed : (29 : Int32) - Int32.ofNat i = Int32.ofNat (29 - i) := n_sub (a := 29) (by omega) (by omega)
    obtain ⟨r, h1, F', E', T', U', rfl, h3⟩ := inner (29 - i) (by omega) F E T U (fun l hl h1 h2 hq => hQ l hl h1 h2 (by omega))
    refine ⟨((29 : Int32) - Int32.ofNat (i + 1), e_g (cs s F' E' T' U') g), ?_, F', E', T', U', rfl, fun l hl h1 h2 hq => h3 l hl h1 h2 (by omega)⟩
    show bX12_composeGroups_3 _ _ _ = _
    unfold bX12_composeGroups_3
    have en : (29 : Int32) - Int32.ofNat (i + 1) = Int32.ofNat (29 - i) + -1 := by
      rw [← ed, ← n_suc, Int32.sub_eq_add_neg, Int32.neg_add, Int32.sub_eq_add_neg, ← Int32.add_assoc, Int32.sub_eq_add_neg]
    rw [en, ed, if_neg (n_neg (by omega)), h1, ob_n]
  · obtain ⟨F, E, T, U, rfl, hQ⟩ := hx
    refine ⟨e_g (cs s F E T U) g, ?_, F, E, T, U, rfl, fun l hl h1 h2 => hQ l hl h1 h2 (by omega)⟩
    show bX12_composeGroups_3 _ _ _ = _
    unfold bX12_composeGroups_3
    rw [if_pos (show (29 : Int32) - Int32.ofNat 30 < 0 by decide)]
theorem cs_cs {s : e_S} {f e t u f' e' t' u' : Nat → Int32} : cs (cs s f e t u) f' e' t' u' = cs s f' e' t' u' := by
  show sA (sA (sA (sA (cs s f e t u) 145 f') 146 e') 147 t') 151 u' = _
  rw [cs_w145, cs_w146, cs_w147, cs_w151]
theorem composeAll12 {s : e_S} {g : ps_G} {w h sz : Nat} {od : Nat → Int32} {o : Nat → Nat} (hk : CpOk s w h sz od o) : ∃ F E T U, fX12_composeAll (e_g s g) 139 = some (e_g (cs s F E T U) g) ∧ ∀ k, k < w * h → F k = vwF s w h sz o 31 (-1) k := by
  obtain ⟨F, E, T, U, h1, h2⟩ := groups12 (g := g) hk
  obtain ⟨ht, ho, hrow, hw1, hh1, hw, hh, e1, e2, hd, hC⟩ := id hk
  obtain ⟨E', T', U', cx⟩ := compose12 (s := s) (g := g) (w := w) (h := h) (sz := sz) (c := 0) (on := 0) (al := 0) (P := -1) (f := F) (e := E) (t := T) (u := U) ht ho hrow hw1 hh1 hw hh e1 e2 hd hC (by decide) (by omega) (fun l hl h1 h2 => by omega)
  refine ⟨cpT F (cmF s w h 0 0 (-1) (fun l k => F (576 * (l + 1) + k)) o sz).1 (576 * 0) (w * h), E', T', U', ?_, fun k hkk => ?_⟩
  · unfold fX12_composeAll
    rw [ob139, ob_n, h1, ob_n, ob139, ob_n, cx, ob_n]
  · have := cpT_in (A := F) (N := (cmF s w h 0 0 (-1) (fun l k => F (576 * (l + 1) + k)) o sz).1) (b := 576 * 0) hkk
    rw [show 576 * 0 + k = k by omega] at this
    rw [this]
    refine (cmF_c (on := 0) (al := 0) hw1 hh1 (fun j hj hch hg k hkk => ?_) sz (Nat.le_refl _)).1 k hkk
    have oj := ho.2.1 j hj
    exact h2 (o j) oj.2.1 oj.2.2 hg k hkk
theorem cmF_s {s s' : e_S} {w h : Nat} {P : Int32} {G : Nat → Nat → Int32} {o : Nat → Nat} (a1 : s.2.1 142 = s'.2.1 142) (a2 : aD s w h = aD s' w h) : ∀ i, cmF s w h 0 0 P G o i = cmF s' w h 0 0 P G o i := by
  have e : ∀ l S, stS s w h 0 0 G l S = stS s' w h 0 0 G l S := fun l S => by
    unfold stS
    rw [if_pos (Or.inl rfl), if_pos (Or.inl rfl), a1, a2]
  intro i
  unfold cmF
  have : (fun i S => stS s w h 0 0 G (o i) S) = fun i S => stS s' w h 0 0 G (o i) S := by
    funext i S; exact e _ _
  rw [this, a1]
theorem vwF_s {s s' : e_S} {w h sz : Nat} {o : Nat → Nat} (a1 : s.2.1 142 = s'.2.1 142) (a2 : aD s w h = aD s' w h) : ∀ m P, vwF s w h sz o m P = vwF s' w h sz o m P
  | 0, _ => rfl
  | m + 1, P => by
    show (cmF s w h 0 0 P _ o sz).1 = (cmF s' w h 0 0 P _ o sz).1
    have : (fun l => vwF s w h sz o m (Int32.ofNat l)) = fun l => vwF s' w h sz o m (Int32.ofNat l) := by
      funext l; exact vwF_s a1 a2 m _
    rw [cmF_s a1 a2, this]
theorem CM_v {s : e_S} {w h sz : Nat} {od : Nat → Int32} {o : Nat → Nat} (hk : CpOk s w h sz od o) {k : Nat} (hkk : k < w * h) : CM (s.2.1 142) (s.2.1 150) (s.2.1 152) (s.2.1 153) (s.2.1 154) (s.1 139 25) (s.1 139 26) w h k = vwF s w h sz o 31 (-1) k := by
  obtain ⟨ht, ho, hrow, hw1, hh1, hw, hh, e1, e2, hd, hC⟩ := id hk
  have hn := wh_le hw hh
  obtain ⟨F, E, T, U, c1, c2⟩ := composeAll12 (s := cmS (s.2.1 142) (s.2.1 150) (s.2.1 152) (s.2.1 153) (s.2.1 154) (s.1 139 25) (s.1 139 26) w h) (g := cmG) (w := w) (h := h) (sz := sz) (od := od) (o := o) ⟨ht, ho, hrow, hw1, hh1, hw, hh, rfl, rfl, hd, hC⟩
  unfold CM
  rw [c1, ob_n, cs_r145 (by omega)]
  show F k = _
  rw [c2 k hkk]
  exact congrFun (vwF_s (s := cmS (s.2.1 142) (s.2.1 150) (s.2.1 152) (s.2.1 153) (s.2.1 154) (s.1 139 25) (s.1 139 26) w h) (s' := s) rfl rfl 31 (-1)) k
