-- needs: 97zv
def skH (how : Int32) : Int32 := if ¬ how = (1 : Int32) then (if ¬ how = (3 : Int32) then (0 : Int32) else (2 : Int32)) else (1 : Int32)
noncomputable def skC (how col cx cy : Int32) (w h : Nat) (B : Nat → Int32) (k : Nat) : Int32 := if how = 2 then bAt w h B (Int32.ofNat (k % w) + cx) (Int32.ofNat (k / w) + cy) else if how = 3 then sfV (nr B w h) 1 (Int32.ofNat (k % w)) (Int32.ofNat (k / w)) else col
noncomputable def skO (how : Int32) (cov : Nat → Int32) (str : Int32) (A : Nat → Int32) (col cx cy dx dy : Int32) (w h : Nat) (B : Nat → Int32) (k : Nat) : Int32 := ptV (skH how) (B k) (skC how col cx cy w h B k) (fX11_mul (fX11_mul (cov k) str) (shV w h A dx dy k))
theorem skO_c {how : Int32} {cov cov' : Nat → Int32} {str : Int32} {A A' : Nat → Int32} {col cx cy dx dy : Int32} {w h : Nat} {B : Nat → Int32} {k : Nat} (hk : k < w * h) (e1 : ∀ k, k < w * h → cov k = cov' k) (e2 : ∀ k, k < w * h → A k = A' k) : skO how cov str A col cx cy dx dy w h B k = skO how cov' str A' col cx cy dx dy w h B k := by
  unfold skO shV
  rw [e1 k hk, bAt_c e2]
theorem strokel11 {s : e_S} {g : ps_G} {a b w h l : Nat} {how : Int32} {N : Nat → Int32} (hg : 195 ≤ g.1) (hw : w ≤ 24) (hh : h ≤ 24) (hs : StN g a w h N) (hL : LyN g b w h l (lR N l)) (hk : N (1169 * l + 1) = 0) (q1 : s.1 89 0 = Int32.ofNat w) (q2 : s.1 89 1 = Int32.ofNat h) (hQ : ∀ k, k < w * h → s.2.1 138 k = sfV (nr (pxN N l) w h) 1 (Int32.ofNat (k % w)) (Int32.ofNat (k / w))) (hC : Gd (s.2.1 97)) (hA : ∀ k, k < 576 → rg (s.2.1 90 k) 0 255) (h5 : rg (s.1 93 5) 0 255) (f0 : Nat → Int32) : q_lp (fun t => bX11_stroke_90 8 how (some b) (Int32.ofNat w) (Int32.ofNat h) g.1 t.1 t.2) ((0 : Int32), e_g s (mkA g f0)) = some (e_g s (mkA g (cpT f0 (skO how (s.2.1 97) (s.1 93 5) (s.2.1 90) (s.1 93 0) (s.1 93 6) (s.1 93 7) (N (1169 * l + 8)) (N (1169 * l + 9)) w h (pxN N l)) 0 (h * w)))) := by
  have hwh := wh_le hw hh
  refine fill1 (fun f => e_g s (mkA g f)) 0 w h (skO how (s.2.1 97) (s.1 93 5) (s.2.1 90) (s.1 93 0) (s.1 93 6) (s.1 93 7) (N (1169 * l + 8)) (N (1169 * l + 9)) w h (pxN N l)) f0 (bI := fun y t => bX11_stroke_100 8 how (some b) (Int32.ofNat w) (Int32.ofNat h) g.1 y t.1 t.2) (fun f y x hy hx _ => ?_) (fun f y hy => ?_) (fun f y hy => ?_) (fun f => ?_)
  · have hlt := at_lt hx hy
    have dm := md (w := w) (x := x) (y := y) hx
    have hL2 := lyN_ext (ext_mkA (f := f)) hL
    obtain ⟨y1, y2, p, q, x0, y0, x1, yy1, pa, ma, y3, z1, z2, z3, z4, z5, z6, z7, z8, z9, z10, z11, z12, -⟩ := id hL2
    obtain ⟨d1, d0, d2, F, d3, d4⟩ := z12 hk
    have f15 : q_fR 4 15 (e_g s (mkA g f)) b = some (some pa) := d_fR y1 y3 rfl
    have f7 : q_fI 4 7 (e_g s (mkA g f)) b = some (N (1169 * l + 8)) := d_fI y1 y3 rfl
    have f8 : q_fI 4 8 (e_g s (mkA g f)) b = some (N (1169 * l + 9)) := d_fI y1 y3 rfl
    have e4 : F (y * w + x) = pxN N l (y * w + x) := d4 _ hlt
    have ob4 : q_ob 4 (e_g s (mkA g f)) b = some () := d_ob y1 y3
    have rp : q_aI (e_g s (mkA g f)) pa (Int32.ofNat (y * w + x)) = some (pxN N l (y * w + x)) := by
      rw [d_aI d1 d3, n_idx (by omega), if_neg (n_in2 (show y * w + x < 576 by omega) (by decide)), e4]
    have rc : q_aI (e_g s (mkA g f)) 97 (Int32.ofNat (y * w + x)) = some (s.2.1 97 (y * w + x)) := by
      rw [a97, n_idx (by omega), if_neg (n_in2 (show y * w + x < 576 by omega) (by decide))]
    have rq : q_aI (e_g s (mkA g f)) 138 (Int32.ofNat (y * w + x)) = some (sfV (nr (pxN N l) w h) 1 (Int32.ofNat x) (Int32.ofNat y)) := by
      rw [a138, n_idx (by omega), if_neg (n_in2 (show y * w + x < 576 by omega) (by decide)), hQ _ hlt, dm.1, dm.2]
    have ar := area11 (s := s) (g := mkA g f) (w := w) (h := h) (x := Int32.ofNat x + N (1169 * l + 8)) (y := Int32.ofNat y + N (1169 * l + 9)) hw hh q1 q2
    have hr : rg (bAt w h (s.2.1 90) (Int32.ofNat x + N (1169 * l + 8)) (Int32.ofNat y + N (1169 * l + 9))) 0 255 = true := bAt_r (fun k hk => hA k (by omega))
    have tr := mul_r (mul_r (hC (y * w + x) (by omega)) h5) hr
    have ow := own11 (s := s) (i := Int32.ofNat x + s.1 93 6) (j := Int32.ofNat y + s.1 93 7) hw hh hL2 hk
    have sv := shV_n (h := h) (y := y) (A := s.2.1 90) (dx := N (1169 * l + 8)) (dy := N (1169 * l + 9)) hx
    have jn : ∀ c, skC how (s.1 93 0) (s.1 93 6) (s.1 93 7) w h (pxN N l) (y * w + x) = c → jX11_stroke_221_100 (e_g s (mkA g f)) 8 how (some b) (Int32.ofNat w) (Int32.ofNat h) g.1 (Int32.ofNat y) (Int32.ofNat x) (Int32.ofNat (y * w + x)) (fX11_mul (fX11_mul (s.2.1 97 (y * w + x)) (s.1 93 5)) (bAt w h (s.2.1 90) (Int32.ofNat x + N (1169 * l + 8)) (Int32.ofNat y + N (1169 * l + 9)))) c = some (.inl (Int32.ofNat (x + 1), e_g s (mkA g (upd f (0 + (y * w + x)) (skO how (s.2.1 97) (s.1 93 5) (s.2.1 90) (s.1 93 0) (s.1 93 6) (s.1 93 7) (N (1169 * l + 8)) (N (1169 * l + 9)) w h (pxN N l) (y * w + x)))))) := fun c hc => by
      have ev : skO how (s.2.1 97) (s.1 93 5) (s.2.1 90) (s.1 93 0) (s.1 93 6) (s.1 93 7) (N (1169 * l + 8)) (N (1169 * l + 9)) w h (pxN N l) (y * w + x) = ptV (skH how) (pxN N l (y * w + x)) c (fX11_mul (fX11_mul (s.2.1 97 (y * w + x)) (s.1 93 5)) (bAt w h (s.2.1 90) (Int32.ofNat x + N (1169 * l + 8)) (Int32.ofNat y + N (1169 * l + 9)))) := by
        unfold skO; rw [hc, sv]
      unfold jX11_stroke_221_100
      rw [ob_n, f15, ob_n, ob_n, rp, ob_n, put11 tr, ob_n, wI_mk hg, n_idx (by omega), if_neg (n_in2 (show y * w + x < 576 by omega) (by decide)), ob_n, n_suc, Nat.zero_add, ev]
      rfl
    show bX11_stroke_100 _ _ _ _ _ _ _ _ _ = _
    unfold bX11_stroke_100
    dsimp only
    rw [if_neg (nle hx (by omega)), f8_8, ob_n, ob_n, f93_12, ob_n, ob_n, n_mul, n_add, rc, ob_n, ob_n, ob_n, f93_5, ob_n, f8_7, ob_n, ob_n, ob_n, f7, ob_n, f8, ob_n, ob89, ob_n, ar, ob_n]
    by_cases c2 : how = 2
    · rw [if_neg (fun z => z c2), ob_n, ob_n, f93_6, ob_n, ob_n, ob_n, f93_7, ob_n, ob4, ob_n, ow, ob_n, jn]
      unfold skC; rw [if_pos c2, dm.1, dm.2]
    · rw [if_pos c2]
      by_cases c3 : how = 3
      · rw [if_neg (fun z => z c3), f8_17, ob_n, ob_n, rq, ob_n, jn]
        unfold skC; rw [if_neg c2, if_pos c3, dm.1, dm.2]
      · rw [if_pos c3, ob_n, ob_n, f93_0, ob_n, jn]
        unfold skC; rw [if_neg c2, if_neg c3]
  · show bX11_stroke_100 _ _ _ _ _ _ _ _ _ = _
    unfold bX11_stroke_100
    dsimp only
    rw [if_pos (nlr (by omega))]
  · show bX11_stroke_90 _ _ _ _ _ _ _ _ = _
    unfold bX11_stroke_90
    dsimp only
    rw [if_neg (nle hy (by omega))]
  · show bX11_stroke_90 _ _ _ _ _ _ _ _ = _
    unfold bX11_stroke_90
    dsimp only
    rw [if_pos (nlr (by omega))]
theorem h03 {v : Int32} (h : rg v 0 3 = true) : v = 0 ∨ v = 1 ∨ v = 2 ∨ v = 3 := by
  rw [rg_i] at h
  have h0 : 0 ≤ v.toInt := h.1
  have h1 : v.toInt ≤ 3 := h.2
  obtain ⟨n, rfl, hn⟩ : ∃ n : Nat, v = Int32.ofNat n ∧ n < 4 := ⟨v.toInt.toNat, n_of (by omega), by omega⟩
  have : n = 0 ∨ n = 1 ∨ n = 2 ∨ n = 3 := by omega
  rcases this with rfl | rfl | rfl | rfl <;> decide
theorem strokel12 {s : e_S} {g : ps_G} {w h l : Nat} {how : Int32} (hh3 : rg how 0 3) (hw1 : 1 ≤ w) (hh1 : 1 ≤ h) (hw : w ≤ 24) (hh : h ≤ 24) (e1 : s.1 139 13 = Int32.ofNat w) (e2 : s.1 139 14 = Int32.ofNat h) (hl : l < 30) (hB : ∀ k, k < w * h → s.2.1 158 k = pxN (s.2.1 142) l k) (hW : ∀ k, k < w * h → s.2.1 147 k = pxN (s.2.1 142) l k) (hC : Gd (s.2.1 162)) (hA : ∀ k, k < 576 → rg (s.2.1 155 k) 0 255) (h5 : rg (s.1 139 40) 0 255) : q_lp (fun t => bX12_stroke_86 139 (Int32.ofNat l) how t.1 t.2) ((0 : Int32), e_g s g) = some (e_g (sA s 142 (cpT (s.2.1 142) (skO how (s.2.1 162) (s.1 139 40) (s.2.1 155) (s.1 139 34) (s.1 139 41) (s.1 139 42) (s.2.1 142 (1169 * l + 8)) (s.2.1 142 (1169 * l + 9)) w h (pxN (s.2.1 142) l)) (1169 * l + 17) (h * w))) g) := by
  have hwh := wh_le hw hh
  have lp := fill1 (fun f => e_g (sA s 142 f) g) (1169 * l + 17) w h (skO how (s.2.1 162) (s.1 139 40) (s.2.1 155) (s.1 139 34) (s.1 139 41) (s.1 139 42) (s.2.1 142 (1169 * l + 8)) (s.2.1 142 (1169 * l + 9)) w h (pxN (s.2.1 142) l)) (s.2.1 142) (bI := fun y t => bX12_stroke_97 139 (Int32.ofNat l) how y t.1 t.2) (bO := fun t => bX12_stroke_86 139 (Int32.ofNat l) how t.1 t.2) (fun f y x hy hx hf => ?_) (fun f y hy => ?_) (fun f y hy => ?_) (fun f => ?_)
  · rw [sA_id] at lp
    exact lp
  · have hlt := at_lt hx hy
    have dm := md (w := w) (x := x) (y := y) hx
    have z1 : (sA s 142 f).1 139 13 = Int32.ofNat w := by rw [F_sA]; exact e1
    have z2 : (sA s 142 f).1 139 14 = Int32.ofNat h := by rw [F_sA]; exact e2
    have z3 : (sA s 142 f).2.1 142 = f := by rw [A_sA, if_pos rfl]
    have zA : ∀ j, ¬ j = 142 → (sA s 142 f).2.1 j = s.2.1 j := fun j hj => by rw [A_sA, if_neg hj]
    have a1 := at12n (s := sA s 142 f) (g := g) (x := x) (y := y) z1
    have fv : f (1169 * l + 17 + (y * w + x)) = pxN (s.2.1 142) l (y * w + x) := by rw [hf, cpT_out (by omega)]; unfold pxN; rw [Nat.add_assoc]
    have sh := shifted12 (s := sA s 142 f) (g := g) (l := l) (x := Int32.ofNat x) (y := Int32.ofNat y) (dx := s.2.1 142 (1169 * l + 8)) (dy := s.2.1 142 (1169 * l + 9)) hw hh z1 z2 hl (by rw [z3, hf]; exact cpT_out (by omega)) (by rw [z3, hf]; exact cpT_out (by omega))
    rw [zA 155 (by decide)] at sh
    have hr : rg (bAt w h (s.2.1 155) (Int32.ofNat x + s.2.1 142 (1169 * l + 8)) (Int32.ofNat y + s.2.1 142 (1169 * l + 9))) 0 255 = true := bAt_r (fun k hk => hA k (by omega))
    have tr := mul_r (mul_r (hC (y * w + x) (by omega)) h5) hr
    have rc : q_aI (e_g (sA s 142 f) g) 162 (Int32.ofNat (y * w + x)) = some (s.2.1 162 (y * w + x)) := by
      rw [a162, n_idx (by omega), if_neg (n_in2 (show y * w + x < 576 by omega) (by decide)), zA _ (by decide)]
    have rb : q_aI (e_g (sA s 142 f) g) 158 (Int32.ofNat (y * w + x)) = some (pxN (s.2.1 142) l (y * w + x)) := by
      rw [a158, n_idx (by omega), if_neg (n_in2 (show y * w + x < 576 by omega) (by decide)), zA _ (by decide), hB _ hlt]
    have sv := shV_n (h := h) (y := y) (A := s.2.1 155) (dx := s.2.1 142 (1169 * l + 8)) (dy := s.2.1 142 (1169 * l + 9)) hx
    have ev : ∀ c, skC how (s.1 139 34) (s.1 139 41) (s.1 139 42) w h (pxN (s.2.1 142) l) (y * w + x) = c → skO how (s.2.1 162) (s.1 139 40) (s.2.1 155) (s.1 139 34) (s.1 139 41) (s.1 139 42) (s.2.1 142 (1169 * l + 8)) (s.2.1 142 (1169 * l + 9)) w h (pxN (s.2.1 142) l) (y * w + x) = ptV (skH how) (pxN (s.2.1 142) l (y * w + x)) c (fX11_mul (fX11_mul (s.2.1 162 (y * w + x)) (s.1 139 40)) (bAt w h (s.2.1 155) (Int32.ofNat x + s.2.1 142 (1169 * l + 8)) (Int32.ofNat y + s.2.1 142 (1169 * l + 9)))) := fun c hc => by
      unfold skO; rw [hc, sv]
    generalize skO how (s.2.1 162) (s.1 139 40) (s.2.1 155) (s.1 139 34) (s.1 139 41) (s.1 139 42) (s.2.1 142 (1169 * l + 8)) (s.2.1 142 (1169 * l + 9)) w h (pxN (s.2.1 142) l) (y * w + x) = V at ev
    generalize bAt w h (s.2.1 155) (Int32.ofNat x + s.2.1 142 (1169 * l + 8)) (Int32.ofNat y + s.2.1 142 (1169 * l + 9)) = T at *
    have po := fun c => putOver12 (s := sA s 142 f) (g := g) (l := l) (k := y * w + x) (c := c) (t := fX11_mul (fX11_mul (s.2.1 162 (y * w + x)) (s.1 139 40)) T) hl (show y * w + x < 576 by omega) tr
    have er := fun c => erase12 (s := sA s 142 f) (g := g) (l := l) (k := y * w + x) (c := c) (t := fX11_mul (fX11_mul (s.2.1 162 (y * w + x)) (s.1 139 40)) T) hl (show y * w + x < 576 by omega)
    have pn := fun v => put12n (s := sA s 142 f) (g := g) (l := l) (k := y * w + x) (v := v) hl (show y * w + x < 576 by omega)
    simp only [z3, fv, sA_sA] at po er pn
    have be := before12 (s := sA s 142 f) (g := g) (x := Int32.ofNat x + s.1 139 41) (y := Int32.ofNat y + s.1 139 42) hw hh z1 z2
    rw [zA 158 (by decide), bAt_c hB] at be
    have so := soft12 (s := sA s 142 f) (g := g) (R := nr (s.2.1 147) w h) (X := x) (Y := y) (m := 1) (by omega) (by omega) (by omega) (fun x y => by rw [near12 hw1 hh1 hw hh z1 z2, zA _ (by decide)])
    rw [nr_c hw1 hh1 hW] at so
    have so' : fX12_soft (e_g (sA s 142 f) g) 139 1 (Int32.ofNat x) (Int32.ofNat y) = some (sfV (nr (pxN (s.2.1 142) l) w h) 1 (Int32.ofNat x) (Int32.ofNat y)) := so
    show bX12_stroke_97 _ _ _ _ _ _ = _
    unfold bX12_stroke_97
    dsimp only
    rw [f139_13, z1, ob_n, if_neg (nle hx (by omega)), ob139, ob_n, a1, ob_n, f139_47, ob_n, ob_n, rc, ob_n, f139_40, F_sA, ob_n, ob_n, sh, ob_n, mul12, mul12]
    rcases h03 hh3 with rfl | rfl | rfl | rfl
    · rw [if_neg (show ¬ ¬ (0 : Int32) = 0 by decide), f139_34, F_sA, ob_n, ob_n, po, ob_n, ev (s.1 139 34) (by unfold skC; rw [if_neg (by decide), if_neg (by decide)])]
      unfold jX12_stroke_276_97
      rw [n_suc]
      rfl
    · rw [if_pos (show ¬ (1 : Int32) = 0 by decide), if_neg (show ¬ ¬ (1 : Int32) = 1 by decide), f139_34, F_sA, ob_n, ob_n, er, ob_n, ev (s.1 139 34) (by unfold skC; rw [if_neg (by decide), if_neg (by decide)])]
      unfold jX12_stroke_276_97
      rw [n_suc]
      rfl
    · rw [if_pos (show ¬ (2 : Int32) = 0 by decide), if_pos (show ¬ (2 : Int32) = 1 by decide), if_neg (show ¬ ¬ (2 : Int32) = 2 by decide), f139_41, F_sA, ob_n, f139_42, F_sA, ob_n, ob_n, place12 hw hh z1 z2, ob_n]
      by_cases pq : plc w h (Int32.ofNat x + s.1 139 41) (Int32.ofNat y + s.1 139 42)
      · obtain ⟨a, b, qa, qb, ha, hb⟩ := plc_n pq
        have hl2 := at_lt ha hb
        have ra : q_aI (e_g (sA s 142 f) g) 158 (Int32.ofNat (b * w + a)) = some (bAt w h (pxN (s.2.1 142) l) (Int32.ofNat x + s.1 139 41) (Int32.ofNat y + s.1 139 42)) := by
          rw [a158, n_idx (by omega), if_neg (n_in2 (show b * w + a < 576 by omega) (by decide)), zA _ (by decide), hB _ hl2, qa, qb, bAt_n hw hh ha hb]
        have ab := at12n (s := sA s 142 f) (g := g) (x := a) (y := b) z1
        rw [if_pos pq, if_neg (show ¬ (1 : Int32) = 0 by decide), f139_35, ob_n, ob_n, ob_n, ob_n, ob_n]
        rw [qa, qb] at ra ⊢
        rw [ab, ob_n, ra, ob_n]
        unfold jX12_stroke_238_97 jX12_stroke_276_97
        rw [ob139, ob_n, po, ob_n, ev (bAt w h (pxN (s.2.1 142) l) (Int32.ofNat a) (Int32.ofNat b)) (by unfold skC; rw [if_pos rfl, dm.1, dm.2, qa, qb]), n_suc]
        rfl
      · rw [if_neg pq, if_pos rfl]
        unfold jX12_stroke_238_97 jX12_stroke_276_97
        rw [ob139, ob_n, po, ob_n, ev 0 (by unfold skC; rw [if_pos rfl, dm.1, dm.2]; unfold bAt; rw [if_neg pq]), n_suc]
        rfl
    · rw [if_pos (show ¬ (3 : Int32) = 0 by decide), if_pos (show ¬ (3 : Int32) = 1 by decide), if_pos (show ¬ (3 : Int32) = 2 by decide), f139_35, ob_n, ob_n, rb, ob_n, ob_n, so', ob_n, mixed12, ob_n, ob_n, pn, ob_n, ev (sfV (nr (pxN (s.2.1 142) l) w h) 1 (Int32.ofNat x) (Int32.ofNat y)) (by unfold skC; rw [if_neg (by decide), if_pos rfl, dm.1, dm.2])]
      unfold jX12_stroke_276_97
      rw [n_suc]
      rfl
  · show bX12_stroke_97 _ _ _ _ _ _ = _
    unfold bX12_stroke_97
    rw [f139_13, F_sA, e1, ob_n, if_pos (nlr (by omega))]
  · show bX12_stroke_86 _ _ _ _ _ = _
    unfold bX12_stroke_86
    rw [f139_14, F_sA, e2, ob_n, if_neg (nle hy (by omega))]
  · show bX12_stroke_86 _ _ _ _ _ = _
    unfold bX12_stroke_86
    rw [f139_14, F_sA, e2, ob_n, if_pos (nlr (by omega))]
