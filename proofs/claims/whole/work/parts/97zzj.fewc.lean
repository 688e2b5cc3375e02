-- needs: 97zzi
/-! ===== few: each pixel gets a colour ===== -/
def chR (B E : Nat → Int32) (k : Nat) : Int32 := fX11_clip (fX11_red (B k) + E (3 * k))
def chG (B E : Nat → Int32) (k : Nat) : Int32 := fX11_clip (fX11_green (B k) + E (3 * k + 1))
def chB (B E : Nat → Int32) (k : Nat) : Int32 := fX11_clip (fX11_blue (B k) + E (3 * k + 2))
def clF (C B E : Nat → Int32) (n k : Nat) : Int32 := ncV C (chR B E k) (chG B E k) (chB B E k) n
def stF (A : Nat → Bool) (w h : Nat) (C B E : Nat → Int32) (n k : Nat) : Nat → Int32 := spN A w h (k % w) (k / w) 2 (chB B E k - fX11_blue (clF C B E n k)) (spN A w h (k % w) (k / w) 1 (chG B E k - fX11_green (clF C B E n k)) (spN A w h (k % w) (k / w) 0 (chR B E k - fX11_red (clF C B E n k)) E))
def fwE (A : Nat → Bool) (w h : Nat) (C B E0 : Nat → Int32) (n : Nat) (di : Int32) : Nat → Nat → Int32
  | 0 => E0
  | k + 1 => if alB B k = false ∨ di = 0 then fwE A w h C B E0 n di k else stF A w h C B (fwE A w h C B E0 n di k) n k
def fwP (A : Nat → Bool) (w h : Nat) (C B E0 : Nat → Int32) (n : Nat) (di : Int32) (k : Nat) : Int32 := if alB B k then (B k &&& -16777216) ||| clF C B (fwE A w h C B E0 n di k) n k else B k
theorem clf_c {A : Nat → Bool} {C C' B E E' : Nat → Int32} {N n k : Nat} (hk : k < N) (hA : A k = true) (hE : Ee A N E E') (hC : ∀ j, j < n → C j = C' j) (h0 : 1 ≤ n) (r1 : rg (chR B E' k) 0 255) (r2 : rg (chG B E' k) 0 255) (r3 : rg (chB B E' k) 0 255) : chR B E k = chR B E' k ∧ chG B E k = chG B E' k ∧ chB B E k = chB B E' k ∧ clF C B E n k = clF C' B E' n k := by
  have e1 : chR B E k = chR B E' k := by unfold chR; rw [show E (3 * k) = E' (3 * k) from hE k hk hA 0 (by omega)]
  have e2 : chG B E k = chG B E' k := by unfold chG; rw [hE k hk hA 1 (by omega)]
  have e3 : chB B E k = chB B E' k := by unfold chB; rw [hE k hk hA 2 (by omega)]
  refine ⟨e1, e2, e3, ?_⟩
  unfold clF ncV
  rw [e1, e2, e3, ne_c hC n (Nat.le_refl _)]
  have i := (ne_i (C := C') r1 r2 r3 n).1
  exact hC _ (by omega)
theorem clp_r {x : Int32} : rg (fX11_clip x) 0 255 := by
  have e0 : (0 : Int32).toInt = 0 := by decide
  have e5 : (255 : Int32).toInt = 255 := by decide
  rw [rg_i, e0, e5]
  unfold fX11_clip
  split
  · split
    · rename_i h1 h2
      rw [i_le] at h1 h2
      omega
    · rw [e5]; omega
  · rw [e0]; omega
theorem fw_e {C C' B E0 E0' : Nat → Int32} {w h n : Nat} {di : Int32} (hC : ∀ j, j < n → C j = C' j) (h0 : 1 ≤ n) (hE : Ee (alB B) (w * h) E0 E0') : ∀ k, k ≤ w * h → Ee (alB B) (w * h) (fwE (fun _ => true) w h C B E0 n di k) (fwE (alB B) w h C' B E0' n di k) := by
  intro k
  induction k with
  | zero => exact fun _ => hE
  | succ k ih =>
    intro hk
    have ih := ih (by omega)
    by_cases q : alB B k = false ∨ di = 0
    · have e : ∀ A C E0, fwE A w h C B E0 n di (k + 1) = fwE A w h C B E0 n di k := fun A C E0 => if_pos q
      rw [e, e]; exact ih
    · have e : ∀ A C E0, fwE A w h C B E0 n di (k + 1) = stF A w h C B (fwE A w h C B E0 n di k) n k := fun A C E0 => if_neg q
      have hA : alB B k = true := by
        cases z : alB B k with
        | false => exact absurd (Or.inl z) q
        | true => rfl
      rw [e, e]
      obtain ⟨c1, c2, c3, c4⟩ := clf_c (show k < w * h by omega) hA ih hC h0 clp_r clp_r clp_r
      unfold stF
      rw [c1, c2, c3, c4]
      exact sp_e (by omega) (sp_e (by omega) (sp_e (by omega) ih))
theorem fw_p {C C' B E0 E0' : Nat → Int32} {w h n k : Nat} {di : Int32} (hC : ∀ j, j < n → C j = C' j) (h0 : n = 0 → ∀ k, k < w * h → q_ush (B k) 24 = 0) (hE : Ee (alB B) (w * h) E0 E0') (hk : k < w * h) : fwP (fun _ => true) w h C B E0 n di k = fwP (alB B) w h C' B E0' n di k := by
  unfold fwP
  cases z : alB B k with
  | false => rw [if_neg (by decide), if_neg (by decide)]
  | true =>
    have hn : 1 ≤ n := by
      refine Nat.lt_of_not_le fun q => ?_
      exact (of_decide_eq_true z) (h0 (by omega) k hk)
    rw [if_pos rfl, if_pos rfl, (clf_c hk z (fw_e hC hn hE k (by omega)) hC hn clp_r clp_r clp_r).2.2.2]
theorem reduce3 {s : e_S} {g : ps_G} {w h n : Nat} {di : Int32} {F : Nat → Int32} (hg : 195 ≤ g.1) (hw : w ≤ 24) (hh : h ≤ 24) (hn : n ≤ 16) (e8 : s.1 111 8 = Int32.ofNat n) : fX3_reduce (e_g s (mkA g F)) 111 g.1 (Int32.ofNat w) (Int32.ofNat h) di = some (e_g (sA s 120 (fwE (fun _ => true) w h (s.2.1 119) F (fl (s.2.1 120) 1728 0) n di (h * w))) (mkA g (cpT F (fwP (fun _ => true) w h (s.2.1 119) F (fl (s.2.1 120) 1728 0) n di) 0 (h * w)))) := by
  have hwh := wh_le hw hh
  have fi : fJ7_fill_53178 (e_g s (mkA g F)) 120 0 = some (e_g (sA s 120 (fl (s.2.1 120) 1728 0)) (mkA g F)) := fillI t120 (by decide) (by decide)
  generalize fl (s.2.1 120) 1728 0 = E0 at fi
  generalize hEE : fwE (fun _ => true) w h (s.2.1 119) F E0 n di = EE
  generalize hPP : fwP (fun _ => true) w h (s.2.1 119) F E0 n di = PP
  have eE0 : EE 0 = E0 := by rw [← hEE]; rfl
  have cp0 : cpT F PP 0 0 = F := by rw [← pf_cp]; exact pf_0
  have step : ∀ y x, y < h → x < w → bX3_reduce_20 111 g.1 (Int32.ofNat w) (Int32.ofNat h) di (Int32.ofNat y) (Int32.ofNat x) (e_g (sA s 120 (EE (y * w + x))) (mkA g (cpT F PP 0 (y * w + x)))) = some (.inl (Int32.ofNat (x + 1), e_g (sA s 120 (EE (y * w + x + 1))) (mkA g (cpT F PP 0 (y * w + x + 1))))) := fun y x hy hx => by
    have hlt := at_lt hx hy
    have dm := md (w := w) (x := x) (y := y) hx
    have c5 : ¬ (576 : Int32) ≤ Int32.ofNat (y * w + x) := show ¬ Int32.ofNat 576 ≤ Int32.ofNat (y * w + x) from nle (by omega) (by omega)
    have hE1 : EE (y * w + x + 1) = if alB F (y * w + x) = false ∨ di = 0 then EE (y * w + x) else stF (fun _ => true) w h (s.2.1 119) F (EE (y * w + x)) n (y * w + x) := by rw [← hEE]; rfl
    have hP1 : PP (y * w + x) = if alB F (y * w + x) then (F (y * w + x) &&& -16777216) ||| clF (s.2.1 119) F (EE (y * w + x)) n (y * w + x) else F (y * w + x) := by rw [← hPP, ← hEE]; rfl
    generalize EE (y * w + x) = E at *
    have cf : cpT F PP 0 (y * w + x) (y * w + x) = F (y * w + x) := by rw [cpT_out (by omega)]
    have cu : ∀ v, v = PP (y * w + x) → upd (cpT F PP 0 (y * w + x)) (y * w + x) v = cpT F PP 0 (y * w + x + 1) := fun v hv => by
      rw [hv, ← pf_cp, ← pf_cp]; exact upd_fill
    generalize hG : cpT F PP 0 (y * w + x) = G at cf cu
    have rp : ∀ s' : e_S, q_aI (e_g s' (mkA g G)) g.1 (Int32.ofNat (y * w + x)) = some (F (y * w + x)) := fun s' => by
      rw [d_aI (Or.inl hg) (show (mkA g G).2.2 g.1 = .inl (0, (576, .inl G)) from nw_at), n_idx (by omega), if_neg (n_in2 (show y * w + x < 576 by omega) (by decide)), cf]
    have ln : ∀ s' : e_S, q_len (e_g s' (mkA g G)) g.1 = some 576 := fun s' => d_len (Or.inl hg) (show (mkA g G).2.2 g.1 = .inl (0, (576, .inl G)) from nw_at)
    unfold bX3_reduce_20
    rw [if_neg (nle hx (by omega)), n_mul, n_add, if_neg c5, ln, ob_n, if_neg c5, rp, ob_n]
    by_cases q : q_ush (F (y * w + x)) 24 = 0
    · have al : alB F (y * w + x) = false := decide_eq_false (fun z => z q)
      rw [if_pos (Or.inl al)] at hE1
      rw [al] at hP1
      have hP2 : F (y * w + x) = PP (y * w + x) := by rw [hP1]; rfl
      have := cu _ hP2
      have e0 : upd G (y * w + x) (F (y * w + x)) = G := by
        funext i
        rw [upd_r]
        split
        · rename_i z; rw [z, cf]
        · rfl
      rw [e0] at this
      rw [if_pos q]
      unfold jX3_reduce_218_20
      rw [n_suc, hE1, ← this]
    · have al : alB F (y * w + x) = true := decide_eq_true q
      rw [al, if_pos rfl] at hP1
      have n3 : (3 : Int32) * Int32.ofNat (y * w + x) = Int32.ofNat (3 * (y * w + x)) := n_mul (n := 3)
      have p1 : Int32.ofNat (3 * (y * w + x)) + (1 : Int32) = Int32.ofNat (3 * (y * w + x) + 1) := n_add (m := 1)
      have p2 : Int32.ofNat (3 * (y * w + x)) + (2 : Int32) = Int32.ofNat (3 * (y * w + x) + 2) := n_add (m := 2)
      have re : ∀ i, i < 1728 → q_aI (e_g (sA s 120 E) (mkA g G)) 120 (Int32.ofNat i) = some (E i) := fun i hi => by
        rw [a120, n_idx (by omega), if_neg (n_in2 hi (by decide)), A_sA, if_pos rfl]
      have ne := near3 (s := sA s 120 E) (g := mkA g G) (r := chR F E (y * w + x)) (gr := chG F E (y * w + x)) (b := chB F E (y * w + x)) hn (by rw [F_sA]; exact e8) clp_r clp_r clp_r
      rw [A_sA, if_neg (by decide)] at ne
      have ne' : fX3_nearestColour (e_g (sA s 120 E) (mkA g G)) 111 (fX11_clip (fX11_red (F (y * w + x)) + E (3 * (y * w + x)))) (fX11_clip (fX11_green (F (y * w + x)) + E (3 * (y * w + x) + 1))) (fX11_clip (fX11_blue (F (y * w + x)) + E (3 * (y * w + x) + 2))) = some (clF (s.2.1 119) F E n (y * w + x)) := ne
      have jn : ∀ E', jX3_reduce_204_20 (e_g (sA s 120 E') (mkA g G)) 111 g.1 (Int32.ofNat w) (Int32.ofNat h) di (Int32.ofNat y) (Int32.ofNat x) (Int32.ofNat (y * w + x)) (clF (s.2.1 119) F E n (y * w + x)) = some (.inl (Int32.ofNat (x + 1), e_g (sA s 120 E') (mkA g (cpT F PP 0 (y * w + x + 1))))) := fun E' => by
        unfold jX3_reduce_204_20 jX3_reduce_218_20
        rw [rp, ob_n, wI_mk hg, n_idx (by omega), if_neg (n_in2 (show y * w + x < 576 by omega) (by decide)), ob_n, n_suc, cu _ hP1.symm]
      rw [if_neg q, ob_n, f111_11, ob_n, ob_n, n3, re _ (by omega), ob_n, ob_n, ob_n, ob_n, p1, re _ (by omega), ob_n, ob_n, ob_n, ob_n, p2, re _ (by omega), ob_n, ob111, ob_n, ne', ob_n]
      by_cases qd : di = 0
      · rw [if_pos (Or.inr qd)] at hE1
        rw [if_pos qd, jn, hE1]
      · rw [if_neg (fun z => z.elim (fun z => by rw [al] at z; cases z) qd)] at hE1
        have sp := fun (E' : Nat → Int32) (c : Nat) (e : Int32) (hc : c < 3) => spread3 (s := s) (g := mkA g G) (E := E') (e := e) (c := c) hw hh hx hy hc
        unfold stF at hE1
        rw [dm.1, dm.2] at hE1
        unfold chR chG chB at hE1
        generalize clF (s.2.1 119) F E n (y * w + x) = cl at *
        have s0 : ∀ E', fX3_spread (e_g (sA s 120 E') (mkA g G)) 111 (Int32.ofNat x) (Int32.ofNat y) (Int32.ofNat w) (Int32.ofNat h) 0 (fX11_clip (fX11_red (F (y * w + x)) + E (3 * (y * w + x))) - fX11_red cl) = _ := fun E' => sp E' 0 _ (by omega)
        have s1 : ∀ E', fX3_spread (e_g (sA s 120 E') (mkA g G)) 111 (Int32.ofNat x) (Int32.ofNat y) (Int32.ofNat w) (Int32.ofNat h) 1 (fX11_clip (fX11_green (F (y * w + x)) + E (3 * (y * w + x) + 1)) - fX11_green cl) = _ := fun E' => sp E' 1 _ (by omega)
        have s2 : ∀ E', fX3_spread (e_g (sA s 120 E') (mkA g G)) 111 (Int32.ofNat x) (Int32.ofNat y) (Int32.ofNat w) (Int32.ofNat h) 2 (fX11_clip (fX11_blue (F (y * w + x)) + E (3 * (y * w + x) + 2)) - fX11_blue cl) = _ := fun E' => sp E' 2 _ (by omega)
        rw [if_neg qd, ob_n, s0, ob_n, ob111, ob_n, s1, ob_n, ob111, ob_n, s2, ob_n, jn, hE1]
  have inner : ∀ y, y < h → q_lp (fun t => bX3_reduce_20 111 g.1 (Int32.ofNat w) (Int32.ofNat h) di (Int32.ofNat y) t.1 t.2) ((0 : Int32), e_g (sA s 120 (EE (y * w))) (mkA g (cpT F PP 0 (y * w)))) = some (e_g (sA s 120 (EE ((y + 1) * w))) (mkA g (cpT F PP 0 ((y + 1) * w)))) := fun y hy => by
    have es : (y + 1) * w = y * w + w := Nat.succ_mul y w
    rw [es]
    refine lp_0 (fun x => (Int32.ofNat x, e_g (sA s 120 (EE (y * w + x))) (mkA g (cpT F PP 0 (y * w + x))))) w rfl (fun x hx => step y x hy hx) ?_
    show bX3_reduce_20 _ _ _ _ _ _ _ _ = _
    unfold bX3_reduce_20
    dsimp only
    rw [if_pos (nlr (by omega))]
  have lp := lp_0 (b := fun t => bX3_reduce_11 111 g.1 (Int32.ofNat w) (Int32.ofNat h) di t.1 t.2) (s := ((0 : Int32), e_g (sA s 120 E0) (mkA g F))) (r := e_g (sA s 120 (EE (h * w))) (mkA g (cpT F PP 0 (h * w)))) (fun y => (Int32.ofNat y, e_g (sA s 120 (EE (y * w))) (mkA g (cpT F PP 0 (y * w))))) h ?_ (fun y hy => ?_) ?_
  · unfold fX3_reduce
    rw [f111_11, ob_n, ob_n, fi, ob_n, lp, ob_n]
  · show _ = (_, e_g (sA s 120 (EE (0 * w))) (mkA g (cpT F PP 0 (0 * w))))
    rw [Nat.zero_mul, eE0, cp0]
    rfl
  · show bX3_reduce_11 _ _ _ _ _ _ _ = _
    unfold bX3_reduce_11
    dsimp only
    rw [if_neg (nle hy (by omega)), inner y hy, ob_n, n_suc]
  · show bX3_reduce_11 _ _ _ _ _ _ _ = _
    unfold bX3_reduce_11
    dsimp only
    rw [if_pos (nlr (by omega))]
