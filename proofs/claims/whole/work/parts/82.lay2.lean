-- needs: 07 10 13 14 20 21 22 23 24 25 26 27 32 38 41 46 47 50 52 53 54 57 60 61 70 71 72 73 80 81
/-! ===== what is seen, in the reference ===== -/
noncomputable def aD (s : e_S) (w h : Nat) : (Nat → Int32) → (Nat → Int32) → Nat → Int32 := AD (s.2.1 152) (s.2.1 153) (s.2.1 154) (s.2.1 150) (s.1 139 25) (s.1 139 26) w h
theorem cs_get {s : e_S} {g : ps_G} {f e t u : Nat → Int32} {l n : Nat} (hl : l < 30) (hn : n < 1169) : fX12_get (e_g (cs s f e t u) g) 139 (Int32.ofNat l) (OfNat.ofNat n) = some (lR (s.2.1 142) l n) := by
  rw [get12 hl hn, cs_A (by decide)]; rfl
theorem cs_r145 {s : e_S} {g : ps_G} {f e t u : Nat → Int32} {k : Nat} (hk : k < 18000) : q_aI (e_g (cs s f e t u) g) 145 (Int32.ofNat k) = some (f k) := by
  rw [a145, n_idx (by omega), if_neg (n_in2 hk (by decide)), cs_145]
theorem cs_r146 {s : e_S} {g : ps_G} {f e t u : Nat → Int32} {k : Nat} (hk : k < 18000) : q_aI (e_g (cs s f e t u) g) 146 (Int32.ofNat k) = some (e k) := by
  rw [a146, n_idx (by omega), if_neg (n_in2 hk (by decide)), cs_146]
theorem cs_r147 {s : e_S} {g : ps_G} {f e t u : Nat → Int32} {k : Nat} (hk : k < 576) : q_aI (e_g (cs s f e t u) g) 147 (Int32.ofNat k) = some (t k) := by
  rw [a147, n_idx (by omega), if_neg (n_in2 hk (by decide)), cs_147]
theorem cs_u145 {s : e_S} {g : ps_G} {f e t u : Nat → Int32} {k : Nat} {v : Int32} (hk : k < 18000) : q_wI (e_g (cs s f e t u) g) 145 (Int32.ofNat k) v = some (e_g (cs s (upd f k v) e t u) g) := by
  rw [u145, n_idx (by omega), if_neg (n_in2 hk (by decide)), cs_145, cs_w145]
theorem cs_u146 {s : e_S} {g : ps_G} {f e t u : Nat → Int32} {k : Nat} {v : Int32} (hk : k < 18000) : q_wI (e_g (cs s f e t u) g) 146 (Int32.ofNat k) v = some (e_g (cs s f (upd e k v) t u) g) := by
  rw [u146, n_idx (by omega), if_neg (n_in2 hk (by decide)), cs_146, cs_w146]
theorem cs_u147 {s : e_S} {g : ps_G} {f e t u : Nat → Int32} {k : Nat} {v : Int32} (hk : k < 576) : q_wI (e_g (cs s f e t u) g) 147 (Int32.ofNat k) v = some (e_g (cs s f e (upd t k v) u) g) := by
  rw [u147, n_idx (by omega), if_neg (n_in2 hk (by decide)), cs_147, cs_w147]
theorem cs_mask {s : e_S} {g : ps_G} {f e t u : Nat → Int32} {l k : Nat} (hl : l < 30) (hk : k < 576) : fX12_maskOf (e_g (cs s f e t u) g) 139 (Int32.ofNat l) (Int32.ofNat k) = some (msV (lR (s.2.1 142) l) k) := by
  rw [maskOf12 hl hk, cs_A (by decide)]
def cvC (cl he : Int32) (e : Nat → Int32) (b : Nat) (k : Nat) : Int32 := if cl = 0 then 255 else if he = 0 then 0 else e (b + k)
theorem lay12 {s : e_S} {g : ps_G} {w h l b : Nat} {cl he : Int32} {f e t u : Nat → Int32} (hl : l < 30) (hr : RwN (lR (s.2.1 142) l)) (h3 : 3 < lR (s.2.1 142) l 1) (hw1 : 1 ≤ w) (hh1 : 1 ≤ h) (hw : w ≤ 24) (hh : h ≤ 24) (e1 : s.1 139 13 = Int32.ofNat w) (e2 : s.1 139 14 = Int32.ofNat h) (hd : 0 < (s.1 139 25).toInt) (hC : CuN (s.2.1 152) (s.2.1 153) (s.2.1 154)) (hb : b ≤ 17280) : ∃ t' u', fX12_lay (e_g (cs s f e t u) g) 139 (Int32.ofNat l) (Int32.ofNat b) (Int32.ofNat (w * h)) cl he = some (e_g (cs s (cpT f (fun k => fX11_mixColours (f (b + k)) (aD s w h (lR (s.2.1 142) l) (fun k => f (b + k)) k) (fX11_mul (fX11_mul (lR (s.2.1 142) l 4) (msV (lR (s.2.1 142) l) k)) (cvC cl he e b k))) b (w * h)) e t' u') g) := by
  have hn := wh_le hw hh
  have g1 : ∀ {F t u}, fX12_get (e_g (cs s F e t u) g) 139 (Int32.ofNat l) 1 = some (lR (s.2.1 142) l 1) := cs_get (n := 1) hl (by omega)
  have g4 : ∀ {F t u}, fX12_get (e_g (cs s F e t u) g) 139 (Int32.ofNat l) 4 = some (lR (s.2.1 142) l 4) := cs_get (n := 4) hl (by omega)
  have g11 : ∀ {F t u}, fX12_get (e_g (cs s F e t u) g) 139 (Int32.ofNat l) 11 = some (lR (s.2.1 142) l 11) := cs_get (n := 11) hl (by omega)
  have g12 : ∀ {F t u}, fX12_get (e_g (cs s F e t u) g) 139 (Int32.ofNat l) 12 = some (lR (s.2.1 142) l 12) := cs_get (n := 12) hl (by omega)
  generalize hrr : lR (s.2.1 142) l = r at hr h3 g1 g4 g11 g12
  have first : q_lp (fun x => bX12_lay_3 139 (Int32.ofNat l) (Int32.ofNat b) (Int32.ofNat (w * h)) cl he x.1 x.2) ((0 : Int32), e_g (cs s f e t u) g) = some (e_g (cs s f e (cpT t (fun k => f (b + k)) 0 (w * h)) u) g) := by
    refine fillN (fun t => e_g (cs s f e t u) g) 0 (w * h) (fun k => f (b + k)) t (fun t' i hi _ => ?_) (fun t' => ?_)
    · show bX12_lay_3 _ _ _ _ _ _ _ _ = _
      unfold bX12_lay_3
      rw [if_neg (nle hi (by omega)), f139_18, ob_n, ob_n, f139_16, ob_n, ob_n, n_add, cs_r145 (by omega), ob_n, cs_u147 (by omega), ob_n, n_suc, Nat.zero_add]
    · show bX12_lay_3 _ _ _ _ _ _ _ _ = _
      unfold bX12_lay_3
      rw [if_pos (nlr (by omega))]
  generalize ht : cpT t (fun k => f (b + k)) 0 (w * h) = t1 at first
  have t1k : ∀ k, k < w * h → t1 k = f (b + k) := fun k hk => by
    rw [← ht]
    have := cpT_in (A := t) (N := fun k => f (b + k)) (b := 0) hk
    rwa [Nat.zero_add] at this
  have j134 : ∀ F u i a cov, i < w * h → jX12_lay_134_34 (e_g (cs s F e t1 u) g) 139 (Int32.ofNat l) (Int32.ofNat b) (Int32.ofNat (w * h)) cl he (Int32.ofNat i) a cov = some (.inl (Int32.ofNat (i + 1), e_g (cs s (upd F (b + i) (fX11_mixColours (f (b + i)) a (fX11_mul (fX11_mul (r 4) (msV r i)) cov))) e t1 u) g)) := by
    intro F u i a cov hi
    have m := cs_mask (s := s) (g := g) (f := F) (e := e) (t := t1) (u := u) (l := l) (k := i) hl (by omega)
    rw [hrr] at m
    unfold jX12_lay_134_34
    rw [f139_16, ob_n, ob_n, f139_18, ob_n, ob_n, cs_r147 (by omega), ob_n, ob139, ob_n, g4, ob_n, ob_n, m, ob_n, mixed12, ob_n, n_add, cs_u145 (by omega), ob_n, n_suc, t1k i hi]
    rfl
  have j103 : ∀ F u i a, i < w * h → jX12_lay_103_34 (e_g (cs s F e t1 u) g) 139 (Int32.ofNat l) (Int32.ofNat b) (Int32.ofNat (w * h)) cl he (Int32.ofNat i) a = some (.inl (Int32.ofNat (i + 1), e_g (cs s (upd F (b + i) (fX11_mixColours (f (b + i)) a (fX11_mul (fX11_mul (r 4) (msV r i)) (cvC cl he e b i)))) e t1 u) g)) := by
    intro F u i a hi
    unfold jX12_lay_103_34 cvC
    by_cases q : cl = 0
    · rw [if_pos q, if_pos q, j134 _ _ _ _ _ hi]
    rw [if_neg q, if_neg q]
    by_cases q2 : he = 0
    · rw [if_pos q2, if_pos q2, j134 _ _ _ _ _ hi]
    rw [if_neg q2, if_neg q2, f139_17, ob_n, ob_n, n_add, cs_r146 (by omega), ob_n, j134 _ _ _ _ _ hi]
  have body : ∀ F u i, i < w * h → ∃ u', bX12_lay_34 139 (Int32.ofNat l) (Int32.ofNat b) (Int32.ofNat (w * h)) cl he (Int32.ofNat i) (e_g (cs s F e t1 u) g) = some (.inl (Int32.ofNat (i + 1), e_g (cs s (upd F (b + i) (fX11_mixColours (f (b + i)) (aD s w h r (fun k => f (b + k)) i) (fX11_mul (fX11_mul (r 4) (msV r i)) (cvC cl he e b i)))) e t1 u') g)) := by
    intro F u i hi
    have hi2 : i / w < h := Nat.div_lt_of_lt_mul hi
    have hi1 : i % w < w := Nat.mod_lt _ (by omega)
    have k1 := rg_i.mp hr.1
    rw [show (0 : Int32).toInt = 0 from rfl, show (5 : Int32).toInt = 5 from rfl] at k1
    rw [i_lt, show (3 : Int32).toInt = 3 from rfl] at h3
    unfold bX12_lay_34 aD AD
    rw [if_neg (nle hi (by omega)), ob139, ob_n, g1, ob_n]
    by_cases q : r 1 = 4
    · obtain ⟨p, ep, hp⟩ := rg_cases (n := 7) (hr.2.2.2.2.2.2.1 q) (by omega)
      have cu := curved12 (s := cs s F e t1 u) (g := g) (k := p) (c := t1 i) (by rw [cs_A (by decide), cs_A (by decide), cs_A (by decide)]; exact hC) (by omega)
      rw [cs_A (by decide), cs_A (by decide), cs_A (by decide)] at cu
      refine ⟨u, ?_⟩
      rw [if_neg (fun z => z q), if_pos q, f139_18, ob_n, ob_n, cs_r147 (by omega), ob_n, ob_n, g11, ob_n, ob_n, ep, cu, ob_n, j103 _ _ _ _ hi, n_int (by omega), Int.toNat_natCast, t1k i hi]
    · have q5 : r 1 = 5 := by
        rw [i_eq] at q ⊢
        rw [show (4 : Int32).toInt = 4 from rfl] at q
        show (r 1).toInt = 5
        omega
      have wz : ¬ Int32.ofNat w = 0 := by
        rw [show (0 : Int32) = Int32.ofNat 0 from rfl, n_eq (by omega) (by omega)]; omega
      obtain ⟨u', fi⟩ := filtered12 (s := cs s F e t1 u) (g := g) (hr.2.2.2.2.2.2.2 q5) hw1 hh1 hw hh (by rw [cs_F]; exact e1) (by rw [cs_F]; exact e2) hi1 hi2 (by rw [cs_F]; exact hd)
      rw [cs_147, cs_A (by decide), cs_F, cs_w151, nr_c hw1 hh1 t1k] at fi
      refine ⟨u', ?_⟩
      have m1 : q_mod (Int32.ofNat i) (Int32.ofNat w) = some (Int32.ofNat (i % w)) := by unfold q_mod; rw [if_neg wz, n_rem (by omega) (by omega)]
      have m2 : q_div (Int32.ofNat i) (Int32.ofNat w) = some (Int32.ofNat (i / w)) := by unfold q_div; rw [if_neg wz, n_div (by omega) (by omega)]
      rw [if_pos q, if_neg q, ob_n, g11, ob_n, ob_n, g12, ob_n, f139_13, cs_F, e1, ob_n, m1, ob_n, ob_n, m2, ob_n, ob_n, fi, b2_n, j103 _ _ _ _ hi]
  obtain ⟨r', q1, u', q2⟩ := lp_n (b := fun x => bX12_lay_34 139 (Int32.ofNat l) (Int32.ofNat b) (Int32.ofNat (w * h)) cl he x.1 x.2) (fun i x => ∃ u, x = (Int32.ofNat i, e_g (cs s (cpT f (fun k => fX11_mixColours (f (b + k)) (aD s w h r (fun k => f (b + k)) k) (fX11_mul (fX11_mul (r 4) (msV r k)) (cvC cl he e b k))) b i) e t1 u) g)) (fun x => ∃ u, x = e_g (cs s (cpT f (fun k => fX11_mixColours (f (b + k)) (aD s w h r (fun k => f (b + k)) k) (fX11_mul (fX11_mul (r 4) (msV r k)) (cvC cl he e b k))) b (w * h)) e t1 u) g) (w * h) (fun i x hi hx => by
      obtain ⟨u, rfl⟩ := hx
      obtain ⟨u', hh⟩ := body (cpT f (fun k => fX11_mixColours (f (b + k)) (aD s w h r (fun k => f (b + k)) k) (fX11_mul (fX11_mul (r 4) (msV r k)) (cvC cl he e b k))) b i) u i hi
      exact ⟨_, hh, u', by rw [← cpT_up]⟩) (fun x hx => by
      obtain ⟨u, rfl⟩ := hx
      refine ⟨e_g (cs s (cpT f (fun k => fX11_mixColours (f (b + k)) (aD s w h r (fun k => f (b + k)) k) (fX11_mul (fX11_mul (r 4) (msV r k)) (cvC cl he e b k))) b (w * h)) e t1 u) g, ?_, u, rfl⟩
      show bX12_lay_34 _ _ _ _ _ _ _ _ = _
      unfold bX12_lay_34
      rw [if_pos (nlr (by omega))]) (s := ((0 : Int32), e_g (cs s f e t1 u) g)) ⟨u, by rw [cpT_0]; rfl⟩
  refine ⟨t1, u', ?_⟩
  unfold fX12_lay
  rw [first, ob_n, q1, q2, ob_n]
theorem fillS {σ : Type} (S : Nat → σ) (w h : Nat) {bI : Int32 → Int32 × σ → Option ((Int32 × σ) ⊕ σ)} {bO : Int32 × σ → Option ((Int32 × σ) ⊕ σ)} (hI : ∀ y x, y < h → x < w → bI (Int32.ofNat y) (Int32.ofNat x, S (y * w + x)) = some (.inl (Int32.ofNat (x + 1), S (y * w + x + 1)))) (hIe : ∀ y, y < h → bI (Int32.ofNat y) (Int32.ofNat w, S (y * w + w)) = some (.inr (S (y * w + w)))) (hO : ∀ y, y < h → bO (Int32.ofNat y, S (y * w)) = (q_lp (bI (Int32.ofNat y)) ((0 : Int32), S (y * w))).bind fun s' => some (.inl (Int32.ofNat y + 1, s'))) (hOe : bO (Int32.ofNat h, S (h * w)) = some (.inr (S (h * w)))) : q_lp bO ((0 : Int32), S 0) = some (S (h * w)) := by
  refine lp_0 (fun y => (Int32.ofNat y, S (y * w))) h (by rw [Nat.zero_mul]; rfl) (fun y hy => ?_) hOe
  have inn : q_lp (bI (Int32.ofNat y)) ((0 : Int32), S (y * w)) = some (S (y * w + w)) := lp_0 (fun x => (Int32.ofNat x, S (y * w + x))) w rfl (fun x hx => hI y x hy hx) (hIe y hy)
  show bO (Int32.ofNat y, S (y * w)) = _
  rw [hO y hy, inn, ob_n, n_suc, Nat.succ_mul]
theorem layOver12 {s : e_S} {g : ps_G} {w h l b : Nat} {cl he al : Int32} {f e t u : Nat → Int32} (hl : l < 30) (hr : RwN (lR (s.2.1 142) l)) (h3 : ¬ 3 < lR (s.2.1 142) l 1) (hw1 : 1 ≤ w) (hw : w ≤ 24) (hh : h ≤ 24) (e1 : s.1 139 13 = Int32.ofNat w) (e2 : s.1 139 14 = Int32.ofNat h) (hb : b ≤ 17280) (hdis : lR (s.2.1 142) l 1 = 1 → 576 * (l + 1) + 576 ≤ b ∨ b + 576 ≤ 576 * (l + 1)) (hcov : ∀ k, k < w * h → rg (cvC cl he e b k) 0 255) : fX12_layOver (e_g (cs s f e t u) g) 139 (Int32.ofNat l) (Int32.ofNat b) cl he al = some (e_g (cs s (cpT f (fun k => blV (f (b + k)) (coV w h (fun k => f (576 * (l + 1) + k)) (lR (s.2.1 142) l) k) (exV w h (fun k => f (576 * (l + 1) + k)) (lR (s.2.1 142) l) (cvC cl he e b) k) (if al = 0 then lR (s.2.1 142) l 5 else 0)) b (h * w)) (if cl = 0 then cpT e (exV w h (fun k => f (576 * (l + 1) + k)) (lR (s.2.1 142) l) (cvC cl he e b)) b (h * w) else e) t u) g) := by
  have hn := wh_le hw hh
  have gg : ∀ {F E} n, n < 1169 → fX12_get (e_g (cs s F E t u) g) 139 (Int32.ofNat l) (OfNat.ofNat n) = some (lR (s.2.1 142) l n) := fun n hn => cs_get (n := n) hl hn
  have g1 : ∀ {F E}, fX12_get (e_g (cs s F E t u) g) 139 (Int32.ofNat l) 1 = some (lR (s.2.1 142) l 1) := gg 1 (by omega)
  have g4 : ∀ {F E}, fX12_get (e_g (cs s F E t u) g) 139 (Int32.ofNat l) 4 = some (lR (s.2.1 142) l 4) := gg 4 (by omega)
  have g5 : ∀ {F E}, fX12_get (e_g (cs s F E t u) g) 139 (Int32.ofNat l) 5 = some (lR (s.2.1 142) l 5) := gg 5 (by omega)
  have g8 : ∀ {F E}, fX12_get (e_g (cs s F E t u) g) 139 (Int32.ofNat l) 8 = some (lR (s.2.1 142) l 8) := gg 8 (by omega)
  have g9 : ∀ {F E}, fX12_get (e_g (cs s F E t u) g) 139 (Int32.ofNat l) 9 = some (lR (s.2.1 142) l 9) := gg 9 (by omega)
  have g11 : ∀ {F E}, fX12_get (e_g (cs s F E t u) g) 139 (Int32.ofNat l) 11 = some (lR (s.2.1 142) l 11) := gg 11 (by omega)
  have ow : ∀ {F E x y}, fX12_own (e_g (cs s F E t u) g) 139 (Int32.ofNat l) x y = some (bAt w h (fun i => lR (s.2.1 142) l (17 + i)) x y) := fun {F E x y} => by
    rw [own12 hl hw hh (by rw [cs_F]; exact e1) (by rw [cs_F]; exact e2), cs_A (by decide)]
  have ra : ∀ {F E x y}, fX12_ramped (e_g (cs s F E t u) g) 139 (Int32.ofNat l) x y = some (rpV (lR (s.2.1 142) l) x y) := fun {F E x y} => by
    rw [ramped12 hl, cs_A (by decide)]
  have ma : ∀ {F E k}, k < 576 → fX12_maskOf (e_g (cs s F E t u) g) 139 (Int32.ofNat l) (Int32.ofNat k) = some (msV (lR (s.2.1 142) l) k) := fun {F E k} hk => cs_mask hl hk
  have mdr : rg (if al = 0 then lR (s.2.1 142) l 5 else 0) 0 15 := by
    split
    · exact hr.2.2.1
    · decide
  have head : ∀ G : ps_G, G = e_g (cs s f e t u) g → fX12_layOver G 139 (Int32.ofNat l) (Int32.ofNat b) cl he al = jX12_layOver_23 G 139 (Int32.ofNat l) (Int32.ofNat b) cl he (lR (s.2.1 142) l 1) (if al = 0 then lR (s.2.1 142) l 5 else 0) := by
    intro G hG
    subst hG
    unfold fX12_layOver
    rw [ob139, ob_n, g1, ob_n]
    by_cases q : al = 0
    · rw [if_pos q, if_pos q, ob_n, g5, ob_n]
    · rw [if_neg q, if_neg q]
  rw [head _ rfl]
  generalize (if al = 0 then lR (s.2.1 142) l 5 else 0) = md at mdr
  generalize lR (s.2.1 142) l = r at hr h3 hdis g1 g4 g5 g8 g9 g11 ow ra ma
  have cv : ∀ k, k < w * h → rg (exV w h (fun k => f (576 * (l + 1) + k)) r (cvC cl he e b) k) 0 255 := fun k hk => ex_r hr (by omega) (hcov k hk)
  unfold jX12_layOver_23
  generalize hV : (fun k => blV (f (b + k)) (coV w h (fun k => f (576 * (l + 1) + k)) r k) (exV w h (fun k => f (576 * (l + 1) + k)) r (cvC cl he e b) k) md) = V'
  have hVk : ∀ k, V' k = blV (f (b + k)) (coV w h (fun k => f (576 * (l + 1) + k)) r k) (exV w h (fun k => f (576 * (l + 1) + k)) r (cvC cl he e b) k) md := fun k => by rw [← hV]
  have j171 : ∀ i x y, i < w * h → jX12_layOver_171_40 (e_g (cs s (cpT f V' b i) (if cl = 0 then cpT e (exV w h (fun k => f (576 * (l + 1) + k)) r (cvC cl he e b)) b i else e) t u) g) 139 (Int32.ofNat l) (Int32.ofNat b) cl he (r 1) md y x (Int32.ofNat i) (coV w h (fun k => f (576 * (l + 1) + k)) r i) (cvC cl he e b i) = some (.inl (x + 1, e_g (cs s (cpT f V' b (i + 1)) (if cl = 0 then cpT e (exV w h (fun k => f (576 * (l + 1) + k)) r (cvC cl he e b)) b (i + 1) else e) t u) g)) := by
    intro i x y hi
    have hx : fX12_mul (fX12_mul (fX12_mul (fX12_alpha (coV w h (fun k => f (576 * (l + 1) + k)) r i)) (r 4)) (msV r i)) (cvC cl he e b i) = exV w h (fun k => f (576 * (l + 1) + k)) r (cvC cl he e b) i := rfl
    unfold jX12_layOver_171_40
    rw [ob139, ob_n, g4, ob_n, ob_n, ma (by omega), ob_n, f139_16, ob_n, ob_n, ob_n, ob_n, n_add, cs_r145 (by omega), ob_n, hx, over12 mdr (cv i hi), ob_n, cs_u145 (by omega), ob_n, cpT_out (show ¬ (b ≤ b + i ∧ b + i < b + i) by omega), ← hVk, cpT_up]
    by_cases q : cl = 0
    · rw [if_neg (fun z => z q), if_pos q, if_pos q, f139_17, ob_n, ob_n, cs_u146 (by omega), ob_n, cpT_up]
      rfl
    · rw [if_pos q, if_neg q, if_neg q]
      rfl
  have j141 : ∀ i x y, i < w * h → jX12_layOver_141_40 (e_g (cs s (cpT f V' b i) (if cl = 0 then cpT e (exV w h (fun k => f (576 * (l + 1) + k)) r (cvC cl he e b)) b i else e) t u) g) 139 (Int32.ofNat l) (Int32.ofNat b) cl he (r 1) md y x (Int32.ofNat i) (coV w h (fun k => f (576 * (l + 1) + k)) r i) = some (.inl (x + 1, e_g (cs s (cpT f V' b (i + 1)) (if cl = 0 then cpT e (exV w h (fun k => f (576 * (l + 1) + k)) r (cvC cl he e b)) b (i + 1) else e) t u) g)) := by
    intro i x y hi
    have := j171 i x y hi
    unfold jX12_layOver_141_40
    unfold cvC at this ⊢
    by_cases q : cl = 0
    · rw [if_pos q] at this ⊢
      simpa only [q, reduceIte] using this
    rw [if_neg q] at this ⊢
    by_cases q2 : he = 0
    · rw [if_pos q2] at this ⊢
      simpa only [q, q2, reduceIte] using this
    rw [if_neg q2] at this ⊢
    rw [if_neg q, if_neg q, f139_17, ob_n, ob_n, n_add, cs_r146 (by omega), ob_n]
    simpa only [q, q2, reduceIte] using this
  have fin := fillS (fun i => e_g (cs s (cpT f V' b i) (if cl = 0 then cpT e (exV w h (fun k => f (576 * (l + 1) + k)) r (cvC cl he e b)) b i else e) t u) g) w h (bI := fun y x => bX12_layOver_40 139 (Int32.ofNat l) (Int32.ofNat b) cl he (r 1) md y x.1 x.2) (bO := fun x => bX12_layOver_28 139 (Int32.ofNat l) (Int32.ofNat b) cl he (r 1) md x.1 x.2) (fun y x hy hx => ?_) (fun y hy => ?_) (fun y hy => ?_) ?_
  · rw [cpT_0, show (if cl = 0 then cpT e (exV w h (fun k => f (576 * (l + 1) + k)) r (cvC cl he e b)) b 0 else e) = e by rw [cpT_0, ite_self]] at fin
    rw [fin, ob_n]
  · have hi := at_lt hx hy
    have d1 : (y * w + x) % w = x := by rw [Nat.mul_comm, Nat.mul_add_mod, Nat.mod_eq_of_lt hx]
    have d2 : (y * w + x) / w = y := by rw [Nat.mul_comm, Nat.mul_add_div (by omega), Nat.div_eq_of_lt hx, Nat.add_zero]
    have key := j141 (y * w + x) (Int32.ofNat x) (Int32.ofNat y) hi
    rw [n_suc] at key
    show bX12_layOver_40 _ _ _ _ _ _ _ _ _ _ = _
    unfold bX12_layOver_40
    rw [f139_13, cs_F, e1, ob_n, if_neg (nle hx (by omega)), ob139, ob_n, at12n (by rw [cs_F]; exact e1), ob_n]
    unfold coV at key
    rw [d1, d2] at key
    by_cases q0 : r 1 = 0
    · rw [if_pos q0] at key
      rw [if_neg (fun z => z q0), ob_n, g8, ob_n, ob_n, g9, ob_n, ob_n, ow, ob_n]
      exact key
    rw [if_neg q0] at key
    by_cases q1 : r 1 = 1
    · rw [if_pos q1] at key
      have rd : (576 : Int32) * (Int32.ofNat l + 1) + Int32.ofNat (y * w + x) = Int32.ofNat (576 * (l + 1) + (y * w + x)) := by
        show Int32.ofNat 576 * _ + _ = _
        rw [n_suc, n_mul, n_add]
      rw [if_pos q0, if_neg (fun z => z q1), f139_16, ob_n, ob_n, rd, cs_r145 (by omega), ob_n, cpT_out (show ¬ (b ≤ 576 * (l + 1) + (y * w + x) ∧ 576 * (l + 1) + (y * w + x) < b + (y * w + x)) by have := hdis q1; omega)]
      exact key
    rw [if_neg q1] at key
    by_cases q2 : r 1 = 2
    · rw [if_pos q2] at key
      rw [if_pos q0, if_pos q1, if_neg (fun z => z q2), ob_n, g11, ob_n]
      exact key
    rw [if_neg q2] at key
    rw [if_pos q0, if_pos q1, if_pos q2, ob_n, ra, ob_n]
    exact key
  · show bX12_layOver_40 _ _ _ _ _ _ _ _ _ _ = _
    unfold bX12_layOver_40
    rw [f139_13, cs_F, e1, ob_n, if_pos (nlr (by omega))]
  · show bX12_layOver_28 _ _ _ _ _ _ _ _ _ = _
    unfold bX12_layOver_28
    rw [f139_14, cs_F, e2, ob_n, if_neg (nle hy (by omega))]
  · show bX12_layOver_28 _ _ _ _ _ _ _ _ _ = _
    unfold bX12_layOver_28
    rw [f139_14, cs_F, e2, ob_n, if_pos (nlr (by omega))]
