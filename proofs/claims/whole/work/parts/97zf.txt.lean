-- needs: 97ze
/-! ===== text: PATHS one beside the other ===== -/
def txB (s : e_S) (i : Nat) : Nat := (s.2.1 140 i).toInt.toNat
def txP (s : e_S) (i : Nat) : Nat := (s.2.1 171 (txB s i)).toInt.toNat
def txA (s : e_S) (x : Int32) : Nat → Int32
  | 0 => x
  | i + 1 => if s.2.1 171 (txB s i) < 0 then txA s x i else txA s x i + s.2.1 172 (txB s i)
def txT (s : e_S) (x y : Int32) (i : Nat) : TrS := lnT (fun j => s.2.1 164 (40 * txP s i + j)) (fun j => s.2.1 165 (40 * txP s i + j)) (fun j => s.2.1 166 (40 * txP s i + j)) (txA s x i) y (s.2.1 163 (txP s i)).toInt.toNat
noncomputable def txV (s : e_S) (l w h : Nat) (x y : Int32) : Nat → Nat → Int32
  | 0 => pxN (s.2.1 142) l
  | i + 1 => if s.2.1 171 (txB s i) < 0 then txV s l w h x y i else plV (cvT 0 (txT s x y i) w) (s.2.1 155) (s.1 139 34) (s.2.1 142 (1169 * l + 8)) (s.2.1 142 (1169 * l + 9)) w h (txV s l w h x y i)
/-- what text needs of the state -/
def TxH (s : e_S) (m : Nat) (x y : Int32) : Prop := G6 s ∧ m ≤ 8000 ∧ (∀ k, k < m → s.2.1 137 k = s.2.1 140 k ∧ 0 ≤ (s.2.1 140 k).toInt ∧ (s.2.1 140 k).toInt ≤ 255) ∧ x.toInt.natAbs ≤ 2000 ∧ y.toInt.natAbs ≤ 2000
theorem tx_b {s : e_S} {m i : Nat} {x y : Int32} (H : TxH s m x y) (hi : i < m) : txB s i < 256 ∧ s.2.1 140 i = Int32.ofNat (txB s i) ∧ s.2.1 140 i &&& 255 = Int32.ofNat (txB s i) := by
  obtain ⟨-, -, h, -⟩ := H
  have b := (h i hi).2
  have e : s.2.1 140 i = Int32.ofNat (txB s i) := n_of (by unfold txB; omega)
  have lt : txB s i < 256 := by unfold txB; omega
  refine ⟨lt, e, ?_⟩
  rw [e]
  have : ∀ b : Fin 256, Int32.ofNat b.1 &&& 255 = Int32.ofNat b.1 := by decide +kernel
  exact this ⟨_, lt⟩
theorem tx_a {s : e_S} {m : Nat} {x y : Int32} (H : TxH s m x y) : ∀ i, i ≤ m → i ≤ 40 → (txA s x i).toInt.natAbs ≤ 2000 + 800 * i
  | 0, _, _ => by
    have := H.2.2.2.1
    show x.toInt.natAbs ≤ _
    omega
  | i + 1, h1, h2 => by
    have ih := tx_a H i (by omega) (by omega)
    obtain ⟨b1, b2, -⟩ := tx_b H (show i < m by omega)
    have g := (H.1.2 _ b1).2.2.2
    have z := rg_i.mp g
    have e0 : (0 : Int32).toInt = 0 := rfl
    have e8 : (800 : Int32).toInt = 800 := by decide
    unfold txA
    by_cases q : s.2.1 171 (txB s i) < 0
    · rw [if_pos q]; omega
    · rw [if_neg q, i_add (by omega) (by omega)]; omega
/-- the PATH of the next byte -/
theorem tx_p {s : e_S} {m i : Nat} {x y : Int32} (H : TxH s m x y) (hi : i < m) (h40 : i < 40) (hq : ¬ s.2.1 171 (txB s i) < 0) : txP s i < 8 ∧ s.2.1 171 (txB s i) = Int32.ofNat (txP s i) ∧ (s.2.1 163 (txP s i)).toInt.toNat ≤ 40 ∧ s.2.1 163 (txP s i) = Int32.ofNat (s.2.1 163 (txP s i)).toInt.toNat ∧ s.2.1 99 (txP s i) = s.2.1 163 (txP s i) ∧ ∀ k, k < (s.2.1 163 (txP s i)).toInt.toNat → s.2.1 100 (40 * txP s i + k) = s.2.1 164 (40 * txP s i + k) ∧ s.2.1 101 (40 * txP s i + k) = s.2.1 165 (40 * txP s i + k) ∧ s.2.1 102 (40 * txP s i + k) = s.2.1 166 (40 * txP s i + k) ∧ rg (s.2.1 164 (40 * txP s i + k)) 0 2 ∧ Bd (s.2.1 165 (40 * txP s i + k) + txA s x i) ∧ Bd (s.2.1 166 (40 * txP s i + k) + y) := by
  obtain ⟨b1, b2, -⟩ := tx_b H hi
  have z := rg_i.mp (H.1.2 _ b1).2.2.1
  have e7 : (7 : Int32).toInt = 7 := by decide
  have e0 : (0 : Int32).toInt = 0 := rfl
  rw [i_lt, e0] at hq
  have hp : txP s i < 8 := by unfold txP; omega
  have ep : s.2.1 171 (txB s i) = Int32.ofNat (txP s i) := n_of (by unfold txP; omega)
  obtain ⟨a1, n, a2, a3, a4⟩ := H.1.1 _ hp
  have en : (s.2.1 163 (txP s i)).toInt.toNat = n := by rw [a3, n_int (by omega)]; rfl
  have ta := tx_a H i (by omega) (by omega)
  have yb := H.2.2.2.2
  refine ⟨hp, ep, by omega, by rw [en]; exact a3, a1, fun k hk => ?_⟩
  obtain ⟨c1, c2, c3, c4, c5, c6⟩ := a4 k (by omega)
  have u := bd2000 c5
  have v := bd2000 c6
  refine ⟨c1, c2, c3, c4, ?_, ?_⟩
  · unfold Bd
    rw [i_add (by omega) (by omega)]; omega
  · unfold Bd
    rw [i_add (by omega) (by omega)]; omega
def TxK (S0 S : e_S) : Prop := Sm S0 S ∧ S.2.2 = S0.2.2 ∧ (∀ i j, ¬ i = 98 → S.1 i j = S0.1 i j) ∧ ∀ j, ¬ (105 ≤ j ∧ j ≤ 110) → S.2.1 j = S0.2.1 j
theorem txK_t {S0 S : e_S} {t : TrS} {T C : Nat → Int32} (h : TxK S0 S) : TxK S0 (sA (sA (tC S t) 109 T) 110 C) := by
  obtain ⟨h1, h2, h3, h4⟩ := h
  refine ⟨sm_tr h1 sm_tC, ?_, fun i j hi => ?_, fun j hj => ?_⟩
  · rw [← h2]; rfl
  · rw [← h3 i j hi]
    unfold tC
    rw [F_sA, F_sA, F_sF, if_neg (fun z => hi z.1), F_sF, if_neg (fun z => hi z.1), F_sF, if_neg (fun z => hi z.1), F_sA, F_sA, F_sA, F_sA]
  · rw [A_sA, if_neg (by omega), A_sA, if_neg (by omega), tC_A (by omega), h4 j hj]
theorem textl11 {s S0 : e_S} {g : ps_G} {a b w h l m : Nat} {x y : Int32} {F : Nat → Int32} (H : TxH s m x y) (hg : 195 ≤ g.1) (hw : w ≤ 24) (hh : h ≤ 24) (e0 : S0.2.2.1 8 0 = some a) (hs : StN g a w h (s.2.1 142)) (hL : LyN g b w h l (lR (s.2.1 142) l)) (q1 : S0.1 89 0 = Int32.ofNat w) (q2 : S0.1 89 1 = Int32.ofNat h) (q3 : S0.1 93 0 = s.1 139 34) (hA : ∀ k, k < 576 → S0.2.1 90 k = s.2.1 155 k ∧ rg (s.2.1 155 k) 0 255) (hS0 : ∀ j, ¬ j = 90 → S0.2.1 j = s.2.1 j) (hF : ∀ k, k < w * h → F k = pxN (s.2.1 142) l k) : ∃ S f, q_lp (fun t => bX11_text_52 8 y (Int32.ofNat m) (some b) g.1 t.1 t.2.1 t.2.2) (x, (0 : Int32), e_g S0 (mkA g F)) = some (e_g S (mkA g f)) ∧ TxK S0 S ∧ ∀ k, k < w * h → f k = txV s l w h x y (min m 40) k := by
  have hwh := wh_le hw hh
  have hm := H.2.1
  have lp := lp_n (b := fun t => bX11_text_52 8 y (Int32.ofNat m) (some b) g.1 t.1 t.2.1 t.2.2) (fun i t => ∃ S f, t = (txA s x i, Int32.ofNat i, e_g S (mkA g f)) ∧ TxK S0 S ∧ ∀ k, k < w * h → f k = txV s l w h x y i k) (fun r => ∃ S f, r = e_g S (mkA g f) ∧ TxK S0 S ∧ ∀ k, k < w * h → f k = txV s l w h x y (min m 40) k) (min m 40) (s := (x, (0 : Int32), e_g S0 (mkA g F))) (fun i t hi ht => ?_) (fun t ht => ?_) ⟨S0, F, rfl, ⟨sm_rf, rfl, fun _ _ _ => rfl, fun _ _ => rfl⟩, hF⟩
  · obtain ⟨r, l1, S, f, l2, l3, l4⟩ := lp
    exact ⟨S, f, by rw [l1, l2], l3, l4⟩
  · obtain ⟨S, f, rfl, hK, hf⟩ := ht
    obtain ⟨K1, K2, K3, K4⟩ := id hK
    have im : i < m := by omega
    have i40 : i < 40 := by omega
    obtain ⟨b1, b2, b3⟩ := tx_b H im
    have gd : ¬ (Int32.ofNat m ≤ Int32.ofNat i ∨ (40 : Int32) ≤ Int32.ofNat i) := by
      rintro (z | z)
      · exact nle im (by omega) z
      · exact nle (b := 40) i40 (by omega) z
    have SA : ∀ j, ¬ j = 90 → ¬ (105 ≤ j ∧ j ≤ 110) → S.2.1 j = s.2.1 j := fun j j1 j2 => by rw [K4 j j2, hS0 j j1]
    have r1 : q_aI (e_g S (mkA g f)) 137 (Int32.ofNat i) = some (s.2.1 140 i) := by
      rw [a137, n_idx (by omega), if_neg (n_in2 (show i < 8000 by omega) (by decide)), SA _ (by decide) (by decide), (H.2.2.1 i im).1]
    have g6 := H.1.2 _ b1
    have r2 : ∀ (Z : e_S) (f' : Nat → Int32), Z.2.1 103 = s.2.1 103 → q_aI (e_g Z (mkA g f')) 103 (Int32.ofNat (txB s i)) = some (s.2.1 171 (txB s i)) := fun Z f' e => by
      rw [a103, n_idx (by omega), if_neg (n_in2 b1 (by decide)), e, g6.1]
    have r3 : ∀ (Z : e_S) (f' : Nat → Int32), Z.2.1 104 = s.2.1 104 → q_aI (e_g Z (mkA g f')) 104 (Int32.ofNat (txB s i)) = some (s.2.1 172 (txB s i)) := fun Z f' e => by
      rw [a104, n_idx (by omega), if_neg (n_in2 b1 (by decide)), e, g6.2.1]
    have head : bX11_text_52 8 y (Int32.ofNat m) (some b) g.1 (txA s x i) (Int32.ofNat i) (e_g S (mkA g f)) = if s.2.1 171 (txB s i) < 0 then (jX11_text_132_52 (e_g S (mkA g f)) 8 y (Int32.ofNat m) (some b) g.1 (txA s x i) (Int32.ofNat i)) else (Option.bind (q_ob 6 (e_g S (mkA g f)) 98) fun u30 => Option.bind (fX6_trace (e_g S (mkA g f)) 98 (s.2.1 171 (txB s i)) (txA s x i) y) fun v31 => Option.bind (some b) fun a32 => Option.bind (q_ob 11 v31 8) fun u33 => Option.bind (fX11_fillTraced v31 8 a32 g.1 (0 : Int32)) fun v34 => Option.bind (q_fR 11 9 v34 8) fun v35 => Option.bind (v35) fun a36 => Option.bind (q_fR 6 5 v34 a36) fun v37 => Option.bind (v37) fun a38 => Option.bind (q_aI v34 a38 (Int32.ofNat (txB s i))) fun v39 => jX11_text_132_52 v34 8 y (Int32.ofNat m) (some a32) g.1 (txA s x i + v39) (Int32.ofNat i)) := by
      unfold bX11_text_52
      rw [if_neg gd, f8_13, ob_n, ob_n, r1, ob_n, f8_9, ob_n, ob_n, f98_4, ob_n, ob_n, b3, r2 _ _ (SA _ (by decide) (by decide)), ob_n]
      by_cases q : s.2.1 171 (txB s i) < 0
      · rw [if_pos q, if_pos q]
      · rw [if_neg q, if_neg q, ob_n, ob_n]
    by_cases q : s.2.1 171 (txB s i) < 0
    · rw [if_pos q] at head
      unfold jX11_text_132_52 at head
      rw [n_suc] at head
      refine ⟨_, head, S, f, ?_, hK, fun k hk => ?_⟩
      · rw [show txA s x (i + 1) = txA s x i from if_pos q]
      · rw [hf k hk, show txV s l w h x y (i + 1) = txV s l w h x y i from if_pos q]
    · rw [if_neg q] at head
      obtain ⟨p1, p2, p3, p4, p5, p6⟩ := tx_p H im i40 q
      obtain ⟨t, tr, ok, le, lb, cE⟩ := trace6' (s := S) (g := mkA g f) (p := txP s i) (n := (s.2.1 163 (txP s i)).toInt.toNat) (dx := txA s x i) (dy := y) (K := fun j => s.2.1 164 (40 * txP s i + j)) (X := fun j => s.2.1 165 (40 * txP s i + j)) (Y := fun j => s.2.1 166 (40 * txP s i + j)) p1 p3 (by rw [SA _ (by decide) (by decide), p5]; exact p4) (fun k hk => by rw [SA _ (by decide) (by decide)]; exact (p6 k hk).1) (fun k hk => by rw [SA _ (by decide) (by decide)]; exact (p6 k hk).2.1) (fun k hk => by rw [SA _ (by decide) (by decide)]; exact (p6 k hk).2.2.1) (fun k hk => (p6 k hk).2.2.2.2.1) (fun k hk => (p6 k hk).2.2.2.2.2)
      have S90 : S.2.1 90 = S0.2.1 90 := K4 _ (by decide)
      obtain ⟨T, C, ft⟩ := fillTr11 (s := S) (g := g) (b := b) (l := l) (N := s.2.1 142) (f0 := f) (t := t) (rule := 0) hg hw hh (by rw [K2]; exact e0) hs hL (by rw [K3 _ _ (by decide)]; exact q1) (by rw [K3 _ _ (by decide)]; exact q2) (fun k hk => by rw [S90, (hA k hk).1]; exact (hA k hk).2) ok lb le
      have hK' := txK_t (t := t) (T := T) (C := C) hK
      have c104 : (sA (sA (tC S t) 109 T) 110 C).2.1 104 = s.2.1 104 := by rw [hK'.2.2.2 _ (by decide), hS0 _ (by decide)]
      rw [ob98, ob_n, p2, tr, ob_n, ob_n, ob8, ob_n, ft, ob_n, f8_9, ob_n, ob_n, f98_5, ob_n, ob_n, r3 _ _ c104, ob_n] at head
      unfold jX11_text_132_52 at head
      rw [n_suc] at head
      refine ⟨_, head, sA (sA (tC S t) 109 T) 110 C, cpT f (plV (cvT 0 t w) (S.2.1 90) (S.1 93 0) (s.2.1 142 (1169 * l + 8)) (s.2.1 142 (1169 * l + 9)) w h f) 0 (h * w), ?_, hK', fun k hk => ?_⟩
      · rw [show txA s x (i + 1) = txA s x i + s.2.1 172 (txB s i) from if_neg q]
      · have := cpT_in (A := f) (N := plV (cvT 0 t w) (S.2.1 90) (S.1 93 0) (s.2.1 142 (1169 * l + 8)) (s.2.1 142 (1169 * l + 9)) w h f) (b := 0) (n := h * w) (k := k) (by rw [Nat.mul_comm]; exact hk)
        rw [Nat.zero_add] at this
        rw [this, show txV s l w h x y (i + 1) = plV (cvT 0 (txT s x y i) w) (s.2.1 155) (s.1 139 34) (s.2.1 142 (1169 * l + 8)) (s.2.1 142 (1169 * l + 9)) w h (txV s l w h x y i) from if_neg q, K3 _ _ (by decide), q3]
        exact plV_c hk (fun k _ => cE _ _ _) (fun k hk => by rw [S90]; exact (hA k (by omega)).1) hf
  · obtain ⟨S, f, rfl, hK, hf⟩ := ht
    refine ⟨_, ?_, S, f, rfl, hK, hf⟩
    show bX11_text_52 _ _ _ _ _ _ _ _ = _
    unfold bX11_text_52
    dsimp only
    rw [if_pos]
    by_cases z : m ≤ 40
    · left
      rw [show min m 40 = m by omega]
      exact nlr (by omega)
    · right
      rw [show min m 40 = 40 by omega]
      decide
