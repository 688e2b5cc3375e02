-- needs: 07 10 13 14 20 21 22 23 24 25 26 27 32 38 41 50 52 53 54 57 70 71 72 73 80
/-! ===== what is seen: one LAYER laid over what was ===== -/
def msV (r : Nat → Int32) (k : Nat) : Int32 := if r 10 = 1 then r (593 + k) else 255
noncomputable def rpV (r : Nat → Int32) (x y : Int32) : Int32 := if ((r 15 - r 13) * (r 15 - r 13)) + ((r 16 - r 14) * (r 16 - r 14)) = 0 then r 11 else fX11_mixColours (r 11) (r 12) (fX11_clip (((255 : Int32) * (((x - r 13) * (r 15 - r 13)) + ((y - r 14) * (r 16 - r 14)))) / (((r 15 - r 13) * (r 15 - r 13)) + ((r 16 - r 14) * (r 16 - r 14)))))
noncomputable def coV (w h : Nat) (G : Nat → Int32) (r : Nat → Int32) (k : Nat) : Int32 := if r 1 = 0 then bAt w h (fun i => r (17 + i)) (Int32.ofNat (k % w) - r 8) (Int32.ofNat (k / w) - r 9) else if r 1 = 1 then G k else if r 1 = 2 then r 11 else rpV r (Int32.ofNat (k % w)) (Int32.ofNat (k / w))
noncomputable def exV (w h : Nat) (G : Nat → Int32) (r : Nat → Int32) (cov : Nat → Int32) (k : Nat) : Int32 := fX11_mul (fX11_mul (fX11_mul (q_ush (coV w h G r k) 24) (r 4)) (msV r k)) (cov k)
noncomputable def AD (M X Y K : Nat → Int32) (dv os : Int32) (w h : Nat) (r V : Nat → Int32) (k : Nat) : Int32 := if r 1 = 4 then cuV M X Y (r 11).toInt.toNat (V k) else flV (r 11) (r 12) (nr V w h) K dv os (Int32.ofNat (k % w)) (Int32.ofNat (k / w))
def ovE (cl : Bool) (E : Nat → Int32) (k : Nat) : Int32 := if cl then E k else 255
noncomputable def laS (A : (Nat → Int32) → (Nat → Int32) → Nat → Int32) (w h : Nat) (G : Nat → Int32) (sh cl : Bool) (md : Int32) (r : Nat → Int32) (S : (Nat → Int32) × (Nat → Int32)) : (Nat → Int32) × (Nat → Int32) :=
  if sh = false then (S.1, if cl then S.2 else fun _ => 0) else if 3 < r 1 then (fun k => fX11_mixColours (S.1 k) (A r S.1 k) (fX11_mul (fX11_mul (r 4) (msV r k)) (ovE cl S.2 k)), if cl then S.2 else fun _ => 0) else (fun k => blV (S.1 k) (coV w h G r k) (exV w h G r (ovE cl S.2) k) md, if cl then S.2 else exV w h G r (ovE cl S.2))
/-- what holds of a LAYER's row -/
def RwN (r : Nat → Int32) : Prop := rg (r 1) 0 5 ∧ rg (r 4) 0 255 ∧ rg (r 5) 0 15 ∧ rg (r 6) 0 1 ∧ rg (r 7) 0 1 ∧ (r 10 = 0 ∨ (r 10 = 1 ∧ ∀ k, k < 576 → rg (r (593 + k)) 0 255)) ∧ (r 1 = 4 → rg (r 11) 0 7) ∧ (r 1 = 5 → FOk (r 11) (r 12))
theorem rwN_l {g : ps_G} {b w h l : Nat} {r : Nat → Int32} (hL : LyN g b w h l r) : RwN r := by
  obtain ⟨h1, h2, p, q, x0, y0, x1, y1, pa, ma, h3, c1, c2, c3, c4, c5, c6, c7, c8, c9, c10, c11, c12, c13, c14⟩ := hL
  have n4 : r 1 = 4 → r 11 = p := fun e => by
    rw [if_neg (by rw [e]; decide)] at c8; exact c8.1
  have n5 : r 1 = 5 → r 11 = p ∧ r 12 = q := fun e => by
    rw [if_neg (by rw [e]; decide)] at c8; exact ⟨c8.1, c8.2.1⟩
  refine ⟨c1, c2, c3, c4, c5, ?_, fun e => ?_, fun e => ?_⟩
  · rcases c14 with c | ⟨d1, d2, d0, d3, f, d4, d5⟩
    · exact Or.inl c.1
    · exact Or.inr ⟨d1, fun k hk => by rw [← (d5 k hk).1]; exact (d5 k hk).2⟩
  · rw [n4 e]; exact c10 e
  · rw [(n5 e).1, (n5 e).2]; exact fOk_F (c11 e).1 (c11 e).2
theorem mk_r {r : Nat → Int32} {k : Nat} (h : RwN r) (hk : k < 576) : rg (msV r k) 0 255 := by
  unfold msV
  rcases h.2.2.2.2.2.1 with e | ⟨e, e2⟩
  · rw [if_neg (by rw [e]; decide)]; decide
  · rw [if_pos e]; exact e2 k hk
theorem ov_r {cl : Bool} {E : Nat → Int32} {k : Nat} (h : rg (E k) 0 255) : rg (ovE cl E k) 0 255 := by
  unfold ovE
  split
  · exact h
  · decide
theorem ex_r {w h : Nat} {G r cov : Nat → Int32} {k : Nat} (hr : RwN r) (hk : k < 576) (hc : rg (cov k) 0 255) : rg (exV w h G r cov k) 0 255 := mul_r (mul_r (mul_r al_r hr.2.1) (mk_r hr hk)) hc
theorem mul_255 {a : Int32} (h : rg a 0 255) : fX11_mul a 255 = a := by
  have h1 := rg_i.mp h
  rw [show (0 : Int32).toInt = 0 from rfl, show (255 : Int32).toInt = 255 from rfl] at h1
  have e1 : (a * 255).toInt = a.toInt * 255 := i_mul (by show _ ≤ a.toInt * 255; omega) (by show a.toInt * 255 < _; omega)
  have e2 : (a * 255 + 127).toInt = a.toInt * 255 + 127 := by
    rw [i_add (by rw [e1]; show _ ≤ a.toInt * 255 + 127; omega) (by rw [e1]; show a.toInt * 255 + 127 < _; omega), e1]; rfl
  show (a * 255 + 127) / 255 = a
  rw [i_eq, i_divp (by omega) (by decide), e2]
  show (a.toInt * 255 + 127) / 255 = _
  omega
theorem laS_c {A : (Nat → Int32) → (Nat → Int32) → Nat → Int32} {w h n : Nat} {G G' : Nat → Int32} {sh cl : Bool} {md : Int32} {r : Nat → Int32} {S S' : (Nat → Int32) × (Nat → Int32)} (hA : ∀ V V', (∀ k, k < n → V k = V' k) → ∀ k, k < n → A r V k = A r V' k) (hG : r 1 = 1 → ∀ k, k < n → G k = G' k) (h1 : ∀ k, k < n → S.1 k = S'.1 k) (h2 : ∀ k, k < n → S.2 k = S'.2 k) : (∀ k, k < n → (laS A w h G sh cl md r S).1 k = (laS A w h G' sh cl md r S').1 k) ∧ ∀ k, k < n → (laS A w h G sh cl md r S).2 k = (laS A w h G' sh cl md r S').2 k := by
  have eo : ∀ k, k < n → ovE cl S.2 k = ovE cl S'.2 k := fun k hk => by unfold ovE; rw [h2 k hk]
  have ec : ∀ k, k < n → coV w h G r k = coV w h G' r k := fun k hk => by
    unfold coV
    by_cases q : r 1 = 1
    · rw [hG q k hk]
    · rw [if_neg q, if_neg q]
  have ee : ∀ k, k < n → exV w h G r (ovE cl S.2) k = exV w h G' r (ovE cl S'.2) k := fun k hk => by
    unfold exV; rw [ec k hk, eo k hk]
  have e2 : ∀ k, k < n → (if cl then S.2 else fun _ => 0) k = (if cl then S'.2 else fun _ => 0) k := fun k hk => by
    cases cl
    · rfl
    · exact h2 k hk
  have e3 : ∀ k, k < n → (if cl then S.2 else exV w h G r (ovE cl S.2)) k = (if cl then S'.2 else exV w h G' r (ovE cl S'.2)) k := fun k hk => by
    cases cl
    · exact ee k hk
    · exact h2 k hk
  unfold laS
  by_cases q : sh = false
  · rw [if_pos q, if_pos q]; exact ⟨h1, e2⟩
  rw [if_neg q, if_neg q]
  by_cases q2 : 3 < r 1
  · rw [if_pos q2, if_pos q2]
    refine ⟨fun k hk => ?_, e2⟩
    show fX11_mixColours _ _ _ = fX11_mixColours _ _ _
    rw [h1 k hk, hA _ _ h1 k hk, eo k hk]
  · rw [if_neg q2, if_neg q2]
    refine ⟨fun k hk => ?_, e3⟩
    show blV _ _ _ _ = blV _ _ _ _
    rw [h1 k hk, ec k hk, ee k hk]
theorem ad_c {M X Y K : Nat → Int32} {dv os : Int32} {w h : Nat} {r V V' : Nat → Int32} (hw : 1 ≤ w) (hh : 1 ≤ h) (e : ∀ k, k < w * h → V k = V' k) {k : Nat} (hk : k < w * h) : AD M X Y K dv os w h r V k = AD M X Y K dv os w h r V' k := by
  unfold AD
  rw [e k hk, nr_c hw hh e]
theorem laS_r {A : (Nat → Int32) → (Nat → Int32) → Nat → Int32} {w h n : Nat} {G : Nat → Int32} {sh cl : Bool} {md : Int32} {r : Nat → Int32} {S : (Nat → Int32) × (Nat → Int32)} (hn : n ≤ 576) (hr : RwN r) (h2 : ∀ k, k < n → rg (S.2 k) 0 255) : ∀ k, k < n → rg ((laS A w h G sh cl md r S).2 k) 0 255 := by
  intro k hk
  have z : rg ((if cl then S.2 else fun _ => 0) k) 0 255 := by
    cases cl
    · show rg 0 0 255 = true; decide
    · exact h2 k hk
  unfold laS
  by_cases q : sh = false
  · rw [if_pos q]; exact z
  rw [if_neg q]
  by_cases q2 : 3 < r 1
  · rw [if_pos q2]; exact z
  · rw [if_neg q2]
    cases cl
    · exact ex_r hr (by omega) (ov_r (h2 k hk))
    · exact h2 k hk
/-- the reference's rows in composing -/
def cs (s : e_S) (f e t u : Nat → Int32) : e_S := sA (sA (sA (sA s 145 f) 146 e) 147 t) 151 u
theorem cs_F {s : e_S} {f e t u : Nat → Int32} : (cs s f e t u).1 = s.1 := by unfold cs; rw [F_sA, F_sA, F_sA, F_sA]
theorem cs_A {s : e_S} {f e t u : Nat → Int32} {a : Nat} (h : ¬ a = 145 ∧ ¬ a = 146 ∧ ¬ a = 147 ∧ ¬ a = 151) : (cs s f e t u).2.1 a = s.2.1 a := by
  unfold cs
  rw [A_sA, if_neg h.2.2.2, A_sA, if_neg h.2.2.1, A_sA, if_neg h.2.1, A_sA, if_neg h.1]
theorem cs_145 {s : e_S} {f e t u : Nat → Int32} : (cs s f e t u).2.1 145 = f := by
  unfold cs
  rw [A_sA, if_neg (by decide), A_sA, if_neg (by decide), A_sA, if_neg (by decide), A_sA, if_pos rfl]
theorem cs_146 {s : e_S} {f e t u : Nat → Int32} : (cs s f e t u).2.1 146 = e := by
  unfold cs
  rw [A_sA, if_neg (by decide), A_sA, if_neg (by decide), A_sA, if_pos rfl]
theorem cs_147 {s : e_S} {f e t u : Nat → Int32} : (cs s f e t u).2.1 147 = t := by
  unfold cs
  rw [A_sA, if_neg (by decide), A_sA, if_pos rfl]
theorem cs_w145 {s : e_S} {f e t u v : Nat → Int32} : sA (cs s f e t u) 145 v = cs s v e t u := by
  unfold cs
  rw [sA_cm (i := 151) (j := 145) (by decide), sA_cm (i := 147) (j := 145) (by decide), sA_cm (i := 146) (j := 145) (by decide), sA_sA]
theorem cs_w146 {s : e_S} {f e t u v : Nat → Int32} : sA (cs s f e t u) 146 v = cs s f v t u := by
  unfold cs
  rw [sA_cm (i := 151) (j := 146) (by decide), sA_cm (i := 147) (j := 146) (by decide), sA_sA]
theorem cs_w147 {s : e_S} {f e t u v : Nat → Int32} : sA (cs s f e t u) 147 v = cs s f e v u := by
  unfold cs
  rw [sA_cm (i := 151) (j := 147) (by decide), sA_sA]
theorem cs_w151 {s : e_S} {f e t u v : Nat → Int32} : sA (cs s f e t u) 151 v = cs s f e t v := by
  unfold cs
  rw [sA_sA]
theorem cs_id {s : e_S} : cs s (s.2.1 145) (s.2.1 146) (s.2.1 147) (s.2.1 151) = s := by
  have e : ∀ (s : e_S) j, sA s j (s.2.1 j) = s := by
    intro s j
    obtain ⟨x1, x2, x3, x4⟩ := s
    show (x1, (fun a => if a = j then x2 j else x2 a), x3, x4) = (x1, x2, x3, x4)
    have : (fun a => if a = j then x2 j else x2 a) = x2 := by
      funext a
      by_cases q : a = j
      · rw [if_pos q, q]
      · rw [if_neg q]
    rw [this]
  unfold cs
  have e1 := e s 145
  have e2 := e s 146
  have e3 := e s 147
  have e4 := e s 151
  rw [e1, e2, e3, e4]
theorem maskOf12 {s : e_S} {g : ps_G} {l k : Nat} (hl : l < 30) (hk : k < 576) : fX12_maskOf (e_g s g) 139 (Int32.ofNat l) (Int32.ofNat k) = some (msV (lR (s.2.1 142) l) k) := by
  have e : fX12_get (e_g s g) 139 (Int32.ofNat l) (593 + Int32.ofNat k) = some (s.2.1 142 (1169 * l + (593 + k))) := by
    rw [show (593 : Int32) + Int32.ofNat k = Int32.ofNat (593 + k) from n_add (n := 593)]
    exact get12 (s := s) (g := g) (l := l) (n := 593 + k) hl (by omega)
  have e2 : fX12_get (e_g s g) 139 (Int32.ofNat l) 10 = some (s.2.1 142 (1169 * l + 10)) := get12 (n := 10) hl (by omega)
  unfold fX12_maskOf msV lR
  by_cases q : s.2.1 142 (1169 * l + 10) = 1
  · simp (decide := true) only [ob139, e2, e, q, not_true_eq_false, reduceIte, ob_n, jX12_maskOf_27]
  · simp (decide := true) only [ob139, e2, e, q, not_false_eq_true, reduceIte, ob_n, jX12_maskOf_27]
theorem own12 {s : e_S} {g : ps_G} {w h l : Nat} {x y : Int32} (hl : l < 30) (hw : w ≤ 24) (hh : h ≤ 24) (e1 : s.1 139 13 = Int32.ofNat w) (e2 : s.1 139 14 = Int32.ofNat h) : fX12_own (e_g s g) 139 (Int32.ofNat l) x y = some (bAt w h (fun i => lR (s.2.1 142) l (17 + i)) x y) := by
  unfold bAt
  by_cases q : plc w h x y
  · obtain ⟨a, b, rfl, rfl, ha, hb⟩ := plc_n q
    have h1 := at_lt ha hb
    have h2 := wh_le hw hh
    have e := get12n (s := s) (g := g) (l := l) (k := b * w + a) hl (by omega)
    rw [if_pos q, n_int (by omega), n_int (by omega), Int.toNat_natCast, Int.toNat_natCast]
    simp (decide := true) only [fX12_own, ob139, jX12_own_27, ob_n, b2_n, tc_rn, tc_ln, F_sF, A_sF, R_sF, L_sF, F_sA, A_sA, R_sA, L_sA, F_sR, A_sR, R_sR, L_sR, F_sL, A_sL, R_sL, L_sL, and_true, true_and, and_false, false_and, and_self, reduceIte, sF_sF, sA_sA, false_or, or_false, true_or, or_true, not_false_eq_true, not_true_eq_false, decide_true, decide_false, Bool.true_or, Bool.or_true, Bool.false_and, Bool.true_and, Bool.false_or, Bool.or_false, Bool.and_true, Bool.and_false, place12 hw hh e1 e2, q, at12n e1, e, lR, Nat.add_assoc]
  · rw [if_neg q]
    simp (decide := true) only [fX12_own, ob139, jX12_own_27, ob_n, b2_n, tc_rn, tc_ln, F_sF, A_sF, R_sF, L_sF, F_sA, A_sA, R_sA, L_sA, F_sR, A_sR, R_sR, L_sR, F_sL, A_sL, R_sL, L_sL, and_true, true_and, and_false, false_and, and_self, reduceIte, sF_sF, sA_sA, false_or, or_false, true_or, or_true, not_false_eq_true, not_true_eq_false, decide_true, decide_false, Bool.true_or, Bool.or_true, Bool.false_and, Bool.true_and, Bool.false_or, Bool.or_false, Bool.and_true, Bool.and_false, place12 hw hh e1 e2, q]
theorem ramped12 {s : e_S} {g : ps_G} {l : Nat} {x y : Int32} (hl : l < 30) : fX12_ramped (e_g s g) 139 (Int32.ofNat l) x y = some (rpV (lR (s.2.1 142) l) x y) := by
  have e : ∀ n, n < 1169 → fX12_get (e_g s g) 139 (Int32.ofNat l) (OfNat.ofNat n) = some (lR (s.2.1 142) l n) := fun n hn => get12 hl hn
  have e11 := e 11 (by omega)
  have e12 := e 12 (by omega)
  have e13 := e 13 (by omega)
  have e14 := e 14 (by omega)
  have e15 := e 15 (by omega)
  have e16 := e 16 (by omega)
  unfold fX12_ramped rpV
  generalize lR (s.2.1 142) l = r at e11 e12 e13 e14 e15 e16
  by_cases q : ((r 15 - r 13) * (r 15 - r 13)) + ((r 16 - r 14) * (r 16 - r 14)) = 0
  · simp (decide := true) only [ob139, e11, e13, e14, e15, e16, q, not_true_eq_false, reduceIte, ob_n, jX12_ramped_116]
  · simp (decide := true) only [ob139, e11, e12, e13, e14, e15, e16, q, not_false_eq_true, reduceIte, ob_n, jX12_ramped_116, q_div, mixed12, clip12]
