-- needs: 97zk
theorem b255 {v : Int32} (h : rg v 0 255) : v &&& 255 = v := by
  have z := rg_i.mp h
  have e0 : (0 : Int32).toInt = 0 := rfl
  have e5 : (255 : Int32).toInt = 255 := by decide
  have : ∀ b : Fin 256, Int32.ofNat b.1 &&& 255 = Int32.ofNat b.1 := by decide +kernel
  have e : v = Int32.ofNat v.toInt.toNat := n_of (by omega)
  have := this ⟨v.toInt.toNat, by omega⟩
  dsimp only at this
  rw [← e] at this
  exact this
def lkC (p q c k : Int32) : Bool := decide (fJ9_abs_0f7a4 ((q_shr p k &&& 255) - (q_shr q k &&& 255)) ≤ c)
def lkB (p q c : Int32) : Bool := lkC p q c 24 && (lkC p q c 16 && (lkC p q c 8 && lkC p q c 0))
theorem like0 {g : ps_G} {p q c : Int32} : fX0_like g p q c = some (if lkB p q c then 1 else 0) := by
  have go : ∀ k k' : Int32, ¬ k < 0 → k + (-8) = k' → bX0_like_3 g p q c k = if lkC p q c k then some (.inl k') else some (.inr (.inr 0)) := fun k k' h1 h2 => by
    unfold bX0_like_3 lkC
    rw [if_neg h1, h2]
    by_cases z : fJ9_abs_0f7a4 ((q_shr p k &&& 255) - (q_shr q k &&& 255)) ≤ c
    · rw [if_pos z, decide_eq_true z]; rfl
    · rw [if_neg z, decide_eq_false z]; rfl
  have s1 := go 24 16 (by decide) (by decide)
  have s2 := go 16 8 (by decide) (by decide)
  have s3 := go 8 0 (by decide) (by decide)
  have s4 := go 0 (-8) (by decide) (by decide)
  have s5 : bX0_like_3 g p q c (-8) = some (.inr (.inl ())) := by
    unfold bX0_like_3
    rw [if_pos (by decide)]
  unfold fX0_like lkB
  cases h1 : lkC p q c 24 with
  | false =>
    rw [h1] at s1
    rw [lp_end (b := fun s => bX0_like_3 g p q c s) s1, ob_n]; rfl
  | true =>
    rw [h1] at s1
    rw [lp_go (b := fun s => bX0_like_3 g p q c s) s1]
    cases h2 : lkC p q c 16 with
    | false =>
      rw [h2] at s2
      rw [lp_end (b := fun s => bX0_like_3 g p q c s) s2, ob_n]; rfl
    | true =>
      rw [h2] at s2
      rw [lp_go (b := fun s => bX0_like_3 g p q c s) s2]
      cases h3 : lkC p q c 8 with
      | false =>
        rw [h3] at s3
        rw [lp_end (b := fun s => bX0_like_3 g p q c s) s3, ob_n]; rfl
      | true =>
        rw [h3] at s3
        rw [lp_go (b := fun s => bX0_like_3 g p q c s) s3]
        cases h4 : lkC p q c 0 with
        | false =>
          rw [h4] at s4
          rw [lp_end (b := fun s => bX0_like_3 g p q c s) s4, ob_n]; rfl
        | true =>
          rw [h4] at s4
          rw [lp_go (b := fun s => bX0_like_3 g p q c s) s4, lp_end (b := fun s => bX0_like_3 g p q c s) s5, ob_n]; rfl
theorem alike12 {g : ps_G} {p q c : Int32} : fX12_alike g p q c = some (if lkB p q c then 1 else 0) := by
  have p3 : ∀ v : Int32, fX12_part v 3 = q_shr v 24 &&& 255 := fun v => by
    have : fX12_part v 3 = q_ush v 24 := by unfold fX12_part; rw [if_neg (fun z => z rfl)]
    rw [this, ← n_sh.1, b255 al_r]
  have p0 : ∀ v : Int32, fX12_part v 0 = q_shr v 16 &&& 255 := fun v => part_k.1
  have p1 : ∀ v : Int32, fX12_part v 1 = q_shr v 8 &&& 255 := fun v => part_k.2.1
  have p2 : ∀ v : Int32, fX12_part v 2 = q_shr v 0 &&& 255 := fun v => by rw [part_k.2.2, shr_0]; rfl
  have go : ∀ k k' kk : Int32, ¬ 4 ≤ k → k + 1 = k' → (∀ v : Int32, fX12_part v k = q_shr v kk &&& 255) → bX12_alike_2 g p q c k = if lkC p q c kk then some (.inl k') else some (.inr (.inr 0)) := fun k k' kk h1 h2 h3 => by
    unfold bX12_alike_2 lkC
    rw [if_neg h1, h2, h3, h3]
    by_cases z : fJ9_abs_0f7a4 ((q_shr p kk &&& 255) - (q_shr q kk &&& 255)) ≤ c
    · rw [if_pos (show fX12_abs ((q_shr p kk &&& 255) - (q_shr q kk &&& 255)) ≤ c from z), decide_eq_true z]; rfl
    · rw [if_neg (show ¬ fX12_abs ((q_shr p kk &&& 255) - (q_shr q kk &&& 255)) ≤ c from z), decide_eq_false z]; rfl
  have s1 := go 0 1 16 (by decide) (by decide) p0
  have s2 := go 1 2 8 (by decide) (by decide) p1
  have s3 := go 2 3 0 (by decide) (by decide) p2
  have s4 := go 3 4 24 (by decide) (by decide) p3
  have s5 : bX12_alike_2 g p q c 4 = some (.inr (.inl ())) := by
    unfold bX12_alike_2
    rw [if_pos (by decide)]
  unfold fX12_alike lkB
  cases h1 : lkC p q c 16 with
  | false =>
    rw [h1] at s1
    rw [lp_end (b := fun s => bX12_alike_2 g p q c s) s1, ob_n]
    cases lkC p q c 24 <;> rfl
  | true =>
    rw [h1] at s1
    rw [lp_go (b := fun s => bX12_alike_2 g p q c s) s1]
    cases h2 : lkC p q c 8 with
    | false =>
      rw [h2] at s2
      rw [lp_end (b := fun s => bX12_alike_2 g p q c s) s2, ob_n]
      cases lkC p q c 24 <;> rfl
    | true =>
      rw [h2] at s2
      rw [lp_go (b := fun s => bX12_alike_2 g p q c s) s2]
      cases h3 : lkC p q c 0 with
      | false =>
        rw [h3] at s3
        rw [lp_end (b := fun s => bX12_alike_2 g p q c s) s3, ob_n]
        cases lkC p q c 24 <;> rfl
      | true =>
        rw [h3] at s3
        rw [lp_go (b := fun s => bX12_alike_2 g p q c s) s3]
        cases h4 : lkC p q c 24 with
        | false =>
          rw [h4] at s4
          rw [lp_end (b := fun s => bX12_alike_2 g p q c s) s4, ob_n]; rfl
        | true =>
          rw [h4] at s4
          rw [lp_go (b := fun s => bX12_alike_2 g p q c s) s4, lp_end (b := fun s => bX12_alike_2 g p q c s) s5, ob_n]; rfl
/-- the alphas of a LAYER -/
def alV (w h : Nat) (P : Nat → Int32) (dx dy : Int32) (k : Nat) : Int32 := q_ush (bAt w h P (Int32.ofNat (k % w) - dx) (Int32.ofNat (k / w) - dy)) 24
theorem alphas0 {s : e_S} {g : ps_G} {b w h l : Nat} {N : Nat → Int32} (hw : w ≤ 24) (hh : h ≤ 24) (e0 : s.1 89 0 = Int32.ofNat w) (e1 : s.1 89 1 = Int32.ofNat h) (hL : LyN g b w h l (lR N l)) (hk : N (1169 * l + 1) = 0) : fX0_alphas (e_g s g) 89 b = some (e_g (sA s 91 (cpT (s.2.1 91) (alV w h (pxN N l) (N (1169 * l + 8)) (N (1169 * l + 9))) 0 (h * w))) g) := by
  have lp := shp0 (s := s) (g := g) (w := w) (h := h) (V := alV w h (pxN N l) (N (1169 * l + 8)) (N (1169 * l + 9))) (bI := fun y x G => bX0_alphas_12 89 b y x G) (bO := fun y G => bX0_alphas_2 89 b y G) hw hh e0 e1 (fun F y x hy hx => ?_) (fun F y hy => ?_) (fun F y => rfl)
  · unfold fX0_alphas
    rw [lp, ob_n]
  · have dm := md (w := w) (x := x) (y := y) hx
    obtain ⟨y1, y2, p, q, x0, y0, x1, yy1, pa, ma, y3, -⟩ := id hL
    have f7 : q_fI 4 7 (e_g (sA s 91 F) g) b = some (N (1169 * l + 8)) := d_fI y1 y3 rfl
    have f8 : q_fI 4 8 (e_g (sA s 91 F) g) b = some (N (1169 * l + 9)) := d_fI y1 y3 rfl
    have ob4 : q_ob 4 (e_g (sA s 91 F) g) b = some () := d_ob y1 y3
    have ow := own11 (s := sA s 91 F) (g := g) (i := Int32.ofNat x - N (1169 * l + 8)) (j := Int32.ofNat y - N (1169 * l + 9)) hw hh hL hk
    show bX0_alphas_12 _ _ _ _ _ = _
    unfold bX0_alphas_12 alV
    rw [f89_0, F_sA, e0, ob_n, if_neg (nle hx (by omega)), f89_3, ob_n, ob_n, ob_n, f7, ob_n, f8, ob_n, ob_n, f89_1, F_sA, e1, ob_n, ob4, ob_n, ow, ob_n, n_mul, n_add, dm.1, dm.2]
  · show bX0_alphas_12 _ _ _ _ _ = _
    unfold bX0_alphas_12
    rw [f89_0, F_sA, e0, ob_n, if_pos (nlr (by omega))]
theorem covered0 {s : e_S} {g : ps_G} {w h : Nat} (hw : w ≤ 24) (hh : h ≤ 24) (e0 : s.1 89 0 = Int32.ofNat w) (e1 : s.1 89 1 = Int32.ofNat h) : fX0_covered (e_g s g) 89 110 = some (e_g (sA s 91 (cpT (s.2.1 91) (s.2.1 110) 0 (w * h))) g) := by
  have hwh := wh_le hw hh
  have lp := fillN (fun F => e_g (sA s 91 F) g) 0 (w * h) (s.2.1 110) (s.2.1 91) (bO := fun t => bX0_covered_2 89 110 t.1 t.2) (fun F i hi _ => ?_) (fun F => ?_)
  · rw [sA_id] at lp
    unfold fX0_covered jX0_covered_36
    rw [lp, ob_n]
  · have v110 : (sA s 91 F).2.1 110 = s.2.1 110 := by rw [A_sA, if_neg (by decide)]
    have v91 : (sA s 91 F).2.1 91 = F := by rw [A_sA, if_pos rfl]
    have g5 : ¬ (576 : Int32) ≤ Int32.ofNat i := nle (b := 576) (by omega) (by omega)
    show bX0_covered_2 _ _ _ _ = _
    unfold bX0_covered_2
    dsimp only
    rw [f89_0, F_sA, e0, ob_n, f89_1, F_sA, e1, ob_n, n_mul, if_neg (nle hi (by omega)), l110, ob_n, if_neg g5, f89_3, ob_n, ob_n, rdI t110 (by omega), ob_n, v110, wrI t91 (by omega) (by omega), ob_n, v91, sA_sA, n_suc, Nat.zero_add]
  · show bX0_covered_2 _ _ _ _ = _
    unfold bX0_covered_2
    dsimp only
    rw [f89_0, F_sA, e0, ob_n, f89_1, F_sA, e1, ob_n, n_mul, if_pos (nlr (by omega))]
theorem within575 {k : Nat} (hk : k < 576) : fX11_within (Int32.ofNat k) 0 575 = Int32.ofNat k := by
  unfold fX11_within
  rw [if_pos (show (0 : Int32) ≤ Int32.ofNat k from (n_le (n := 0) (by omega) (by omega)).mpr (by omega)), if_pos (show Int32.ofNat k ≤ (575 : Int32) from (n_le (m := 575) (by omega) (by omega)).mpr (by omega))]
def akV (P : Nat → Int32) (fr c : Int32) (k : Nat) : Int32 := if lkB (P k) fr c then 255 else 0
theorem alike0 {s : e_S} {g : ps_G} {w h x y : Nat} {c : Int32} (hw : w ≤ 24) (hh : h ≤ 24) (e0 : s.1 89 0 = Int32.ofNat w) (e1 : s.1 89 1 = Int32.ofNat h) (hx : x < w) (hy : y < h) : fX0_alike (e_g s g) 89 86 (Int32.ofNat x) (Int32.ofNat y) c = some (e_g (sA s 91 (cpT (s.2.1 91) (akV (s.2.1 86) (s.2.1 86 (y * w + x)) c) 0 (w * h))) g) := by
  have hwh := wh_le hw hh
  have hlt := at_lt hx hy
  have lp := fillN (fun F => e_g (sA s 91 F) g) 0 (w * h) (akV (s.2.1 86) (s.2.1 86 (y * w + x)) c) (s.2.1 91) (bO := fun t => bX0_alike_22 89 86 c (s.2.1 86 (y * w + x)) t.1 t.2) (fun F i hi _ => ?_) (fun F => ?_)
  · rw [sA_id] at lp
    unfold fX0_alike
    rw [f89_0, e0, ob_n, n_mul, n_add, within575 (by omega), rdI t86 (by omega), ob_n, lp, ob_n]
  · have v86 : (sA s 91 F).2.1 86 = s.2.1 86 := by rw [A_sA, if_neg (by decide)]
    have v91 : (sA s 91 F).2.1 91 = F := by rw [A_sA, if_pos rfl]
    have kv : (if (if lkB (s.2.1 86 i) (s.2.1 86 (y * w + x)) c = true then (1 : Int32) else 0) = 0 then (0 : Int32) else 255) = akV (s.2.1 86) (s.2.1 86 (y * w + x)) c i := by
      unfold akV
      cases lkB (s.2.1 86 i) (s.2.1 86 (y * w + x)) c <;> rfl
    show bX0_alike_22 _ _ _ _ _ _ = _
    unfold bX0_alike_22
    dsimp only
    rw [f89_0, F_sA, e0, ob_n, f89_1, F_sA, e1, ob_n, n_mul, if_neg (nle hi (by omega)), f89_3, ob_n, ob_n, rdI t86 (by omega), ob_n, v86, like0, ob_n, kv, wrI t91 (by omega) (by omega), ob_n, v91, sA_sA, n_suc, Nat.zero_add]
  · show bX0_alike_22 _ _ _ _ _ _ = _
    unfold bX0_alike_22
    dsimp only
    rw [f89_0, F_sA, e0, ob_n, f89_1, F_sA, e1, ob_n, n_mul, if_pos (nlr (by omega))]
