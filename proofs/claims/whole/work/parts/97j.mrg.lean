-- needs: 07 10 13 14 20 21 22 23 24 25 26 27 32 33 34 36 38 39 40 41 42 43 44 46 47 48 49 50 52 53 54 55 57 60 61 62 63 64 65 70 71 72 73 74 80 81 82 83 84 85 86 87 88 89 90 91 97a 97b 97c 97d 97e 97f 97g 97h 97i
/-! ===== merge ===== -/
def lsB (P : Nat → Bool) (v : Nat → Option Nat) : Nat → Option Nat
  | 0 => none
  | i + 1 => if P i then v i else lsB P v i
theorem lsB_c {P : Nat → Bool} {v : Nat → Option Nat} : ∀ i, (cnt P i = 0 ∧ lsB P v i = none) ∨ ∃ j, j < i ∧ P j = true ∧ cnt P j + 1 = cnt P i ∧ lsB P v i = v j
  | 0 => Or.inl ⟨rfl, rfl⟩
  | i + 1 => by
    by_cases q : P i = true
    · refine Or.inr ⟨i, by omega, q, ?_, ?_⟩
      · rw [cnt_s, if_pos q]
      · show (if P i then v i else _) = _
        rw [if_pos q]
    · have e1 : cnt P (i + 1) = cnt P i := by rw [cnt_s, if_neg q]; rfl
      have e2 : lsB P v (i + 1) = lsB P v i := if_neg q
      rw [e1, e2]
      rcases lsB_c (P := P) (v := v) i with z | ⟨j, z1, z2⟩
      · exact Or.inl z
      · exact Or.inr ⟨j, by omega, z2⟩
theorem below9 {s : e_S} {g : ps_G} {a w h la oa sz l b k : Nat} {N : Nat → Int32} {ly : Nat → Option Nat} {od : Nat → Int32} {o : Nat → Nat} (hS : StD g a w h N la oa sz ly od o) (hl : l < 30) (h1 : N (1169 * l) = 1) (hb : ly l = some b) (k1 : k < sz) (k2 : o k = l) : fX9_below (e_g s g) a b = some (lsB (chO N o (N (1169 * l + 2))) (fun i => ly (o i)) k) := by
  have ho : OrD N sz od o := hS.2.2.2.2.2.2.2.2.2.2.2.2.1
  have hsz := ho.1
  obtain ⟨b', e1, e2⟩ := hS.ly hl h1
  rw [hb] at e1
  cases e1
  obtain ⟨y1, y2, p, q', x0, y0, x1, yy1, pa, ma, y3, -, -, -, -, -, -, -, -, -, -, -, -, z13, -⟩ := e2
  have r2 : q_fI 4 2 (e_g s g) b = some (N (1169 * l + 2)) := d_fI y1 y3 rfl
  have g8 : q_g8 (some b) = some () := if_neg (by omega)
  have g8n : q_g8 none = some () := rfl
  have hl9 : q_lp (fun t => bX9_below_4 (e_g s g) a b t.1 t.2) (none, (0 : Int32)) = some (lsB (chO N o (N (1169 * l + 2))) (fun i => ly (o i)) k) := by
    refine lp_0 (fun i => (lsB (chO N o (N (1169 * l + 2))) (fun i => ly (o i)) i, Int32.ofNat i)) k rfl (fun i hi => ?_) ?_
    · have q1 : ¬ Int32.ofNat sz ≤ Int32.ofNat i := by rw [n_le (by omega) (by omega)]; omega
      obtain ⟨b1, b2, b3⟩ := ho.2.1 i (by omega)
      obtain ⟨c, e1, e2⟩ := hS.ly b2 b3
      have n0 : ¬ (some c = none) := nofun
      have nb : ¬ (some c = some b) := by
        intro e
        cases e
        have := ly_inj hS b2 hl e1 hb
        rw [← k2] at this
        exact ho.2.2.1 i k hi k1 this
      have nn : ¬ ((none : Option Nat) = some b) := nofun
      have c8 : q_g8 (some c) = some () := by
        obtain ⟨-, -, p, q', x0, y0, x1, yy1, pa, ma, -, -, -, -, -, -, -, -, -, -, -, -, -, z13, -⟩ := e2
        exact if_neg (by omega)
      have ch := child9 (s := s) (P := N (1169 * l + 2)) hS (show i < sz by omega)
      rw [e1] at ch
      have st : lsB (chO N o (N (1169 * l + 2))) (fun i => ly (o i)) (i + 1) = if chO N o (N (1169 * l + 2)) i then some c else lsB (chO N o (N (1169 * l + 2))) (fun i => ly (o i)) i := by
        show (if chO N o (N (1169 * l + 2)) i then ly (o i) else _) = _
        rw [e1]
      by_cases z : chO N o (N (1169 * l + 2)) i <;> simp (decide := true) only [bX9_below_4, jX9_below_40_4, hS.f4, hS.ob, q1, r2, ch, z, n0, nb, nn, g8, g8n, c8, n_suc, st, ob_n, b2_n, tc_rn, tc_ln, F_sF, A_sF, R_sF, L_sF, F_sA, A_sA, R_sA, L_sA, F_sR, A_sR, R_sR, L_sR, F_sL, A_sL, R_sL, L_sL, and_true, true_and, and_false, false_and, and_self, reduceIte, sF_sF, sA_sA, false_or, or_false, true_or, or_true, not_false_eq_true, not_true_eq_false, decide_true, decide_false, Bool.true_or, Bool.or_true, Bool.false_and, Bool.true_and, Bool.false_or, Bool.or_false, Bool.and_true, Bool.and_false]
    · have q1 : ¬ Int32.ofNat sz ≤ Int32.ofNat k := by rw [n_le (by omega) (by omega)]; omega
      have ch := child9 (s := s) (P := N (1169 * l + 2)) hS k1
      have z : chO N o (N (1169 * l + 2)) k = true := by unfold chO; rw [k2]; exact decide_eq_true rfl
      rw [k2, hb] at ch
      simp (decide := true) only [bX9_below_4, hS.f4, hS.ob, q1, r2, ch, z, g8, ob_n, b2_n, tc_rn, tc_ln, F_sF, A_sF, R_sF, L_sF, F_sA, A_sA, R_sA, L_sA, F_sR, A_sR, R_sR, L_sR, F_sL, A_sL, R_sL, L_sL, and_true, true_and, and_false, false_and, and_self, reduceIte, sF_sF, sA_sA, false_or, or_false, true_or, or_true, not_false_eq_true, not_true_eq_false, decide_true, decide_false, Bool.true_or, Bool.or_true, Bool.false_and, Bool.true_and, Bool.false_or, Bool.or_false, Bool.and_true, Bool.and_false]
  unfold fX9_below jX9_below_46
  rw [hl9, ob_n]
/-- the one below, in both -/
theorem below_c {s : e_S} {g : ps_G} {a w h la oa sz l b : Nat} {ly : Nat → Option Nat} {od : Nat → Int32} {o : Nat → Nat} (hS : StD g a w h (s.2.1 142) la oa sz ly od o) (hl : l < 30) (h1 : s.2.1 142 (1169 * l) = 1) (hb : ly l = some b) : (s.2.1 142 (1169 * l + 3) = 0 ∧ fX9_below (e_g s g) a b = some none) ∨ ∃ m c i j, m < 30 ∧ s.2.1 142 (1169 * m) = 1 ∧ s.2.1 142 (1169 * m + 2) = s.2.1 142 (1169 * l + 2) ∧ ¬ s.2.1 142 (1169 * l + 3) ≤ 0 ∧ (∀ s' g', s'.2.1 142 = s.2.1 142 → fX12_child (e_g s' g') 139 (s.2.1 142 (1169 * l + 2)) (s.2.1 142 (1169 * l + 3) - 1) = some (Int32.ofNat m)) ∧ LyN g c w h m (lR (s.2.1 142) m) ∧ ly m = some c ∧ fX9_below (e_g s g) a b = some (some c) ∧ i < j ∧ j < sz ∧ o i = m ∧ o j = l := by
  have ho : OrD (s.2.1 142) sz od o := hS.2.2.2.2.2.2.2.2.2.2.2.2.1
  have hsz := ho.1
  obtain ⟨k, k1, k2⟩ := ho.2.2.2.1 l hl h1
  have bl := below9 (s := s) hS hl h1 hb k1 k2
  have pk := place_cnt hS.1 ho k k1
  rw [k2] at pk
  have ck : cnt (chO (s.2.1 142) o (s.2.1 142 (1169 * l + 2))) k ≤ k := cnt_le
  rcases lsB_c (P := chO (s.2.1 142) o (s.2.1 142 (1169 * l + 2))) (v := fun i => ly (o i)) k with ⟨z1, z2⟩ | ⟨j, j1, j2, j3, j4⟩
  · left
    rw [z1] at pk
    rw [z2] at bl
    exact ⟨pk, bl⟩
  · right
    have oj := ho.2.1 j (by omega)
    have hp : s.2.1 142 (1169 * o j + 2) = s.2.1 142 (1169 * l + 2) := of_decide_eq_true j2
    have pj := place_cnt hS.1 ho j (by omega)
    rw [hp] at pj
    obtain ⟨c, c1, c2⟩ := hS.ly oj.2.1 oj.2.2
    have j4' : lsB (chO (s.2.1 142) o (s.2.1 142 (1169 * l + 2))) (fun i => ly (o i)) k = some c := by rw [j4]; exact c1
    rw [j4'] at bl
    refine ⟨o j, c, j, k, oj.2.1, oj.2.2, hp, ?_, fun s' g' e' => ?_, c2, c1, bl, j1, k1, rfl, k2⟩
    · rw [pk, ← j3]
      intro z
      have := (n_le (n := cnt (chO (s.2.1 142) o (s.2.1 142 (1169 * l + 2))) j + 1) (m := 0) (by omega) (by omega)).mp z
      omega
    · have e3 : s.2.1 142 (1169 * l + 3) - 1 = s.2.1 142 (1169 * o j + 3) := by
        rw [pk, ← j3, pj]
        exact (n_sub (b := 1) (by omega) (by omega))
      rw [e3]
      refine child12 oj.2.1 (by rw [e']; exact oj.2.2) (by rw [e']; exact hp) (by rw [e']) (fun m hm q1 q2 q3 => ?_)
      rw [e'] at q1 q2 q3
      obtain ⟨i', hi', rfl⟩ := ho.2.2.2.1 m (by omega) q1
      rcases Nat.lt_trichotomy i' j with q | q | q
      · have := ho.2.2.2.2 i' j q (by omega) (by rw [q2, hp])
        rw [q3, i_lt] at this
        omega
      · subst q; omega
      · have := ho.2.2.2.2 j i' q hi' (by rw [q2, hp])
        rw [q3, i_lt] at this
        omega
theorem cmF_2 {s : e_S} {w h sz l m i j : Nat} {G : Nat → Nat → Int32} {od : Nat → Int32} {o : Nat → Nat} (ho : OrD (s.2.1 142) sz od o) (hij : i < j) (hj : j < sz) (ei : o i = m) (ej : o j = l) (hp : s.2.1 142 (1169 * m + 2) = s.2.1 142 (1169 * l + 2)) (f1 : s.1 139 19 = Int32.ofNat m) (f2 : s.1 139 20 = Int32.ofNat l) : cmF s w h 1 0 (s.2.1 142 (1169 * l + 2)) G o sz = laS (aD s w h) w h (G l) true (decide (lR (s.2.1 142) l 7 = 1)) (lR (s.2.1 142) l 5) (lR (s.2.1 142) l) (laS (aD s w h) w h (G m) true (decide (lR (s.2.1 142) m 7 = 1)) (lR (s.2.1 142) m 5) (lR (s.2.1 142) m) (fun _ => 0, fun _ => 0)) := by
  have uq : ∀ n n', n < sz → n' < sz → o n = o n' → n = n' := fun n n' h1 h2 e => by
    rcases Nat.lt_trichotomy n n' with q | q | q
    · exact absurd e (ho.2.2.1 n n' q h2)
    · exact q
    · exact absurd e.symm (ho.2.2.1 n' n q h1)
  have no : ∀ n, n < sz → ¬ n = i → ¬ n = j → ∀ S, stS s w h 1 0 G (o n) S = S := fun n hn n1 n2 S => by
    have on := ho.2.1 n hn
    have oi := ho.2.1 i (by omega)
    have oj := ho.2.1 j hj
    unfold stS
    rw [f1, f2, if_neg]
    rintro (z | z | z)
    · exact absurd z (by decide)
    · rw [← ei] at z
      exact n1 (uq n i hn (by omega) ((n_eq (by omega) (by omega)).mp z))
    · rw [← ej] at z
      exact n2 (uq n j hn hj ((n_eq (by omega) (by omega)).mp z))
  have ci : chO (s.2.1 142) o (s.2.1 142 (1169 * l + 2)) i = true := decide_eq_true (by rw [ei]; exact hp)
  have cj : chO (s.2.1 142) o (s.2.1 142 (1169 * l + 2)) j = true := decide_eq_true (by rw [ej])
  have k1 := fsS_k (P := chO (s.2.1 142) o (s.2.1 142 (1169 * l + 2))) (st := fun i S => stS s w h 1 0 G (o i) S) (z := (fun _ => 0, fun _ => 0)) (n := 0) i (fun n _ hn _ S => no n (by omega) (by omega) (by omega) S)
  have k2 := fsS_k (P := chO (s.2.1 142) o (s.2.1 142 (1169 * l + 2))) (st := fun i S => stS s w h 1 0 G (o i) S) (z := (fun _ => 0, fun _ => 0)) (n := i + 1) (j - (i + 1)) (fun n hn hn2 _ S => no n (by omega) (by omega) (by omega) S)
  have k3 := fsS_k (P := chO (s.2.1 142) o (s.2.1 142 (1169 * l + 2))) (st := fun i S => stS s w h 1 0 G (o i) S) (z := (fun _ => 0, fun _ => 0)) (n := j + 1) (sz - (j + 1)) (fun n hn hn2 _ S => no n (by omega) (by omega) (by omega) S)
  rw [show i + 1 + (j - (i + 1)) = j by omega, fsS_t ci] at k2
  rw [show j + 1 + (sz - (j + 1)) = sz by omega, fsS_t cj] at k3
  rw [Nat.zero_add] at k1
  rw [k1] at k2
  rw [k2] at k3
  unfold cmF
  rw [k3]
  show stS s w h 1 0 G (o j) (stS s w h 1 0 G (o i) (fun _ => 0, fun _ => 0)) = _
  have one : ∀ n S, (Int32.ofNat n = s.1 139 19 ∨ Int32.ofNat n = s.1 139 20) → stS s w h 1 0 G n S = laS (aD s w h) w h (G n) true (decide (lR (s.2.1 142) n 7 = 1)) (lR (s.2.1 142) n 5) (lR (s.2.1 142) n) S := fun n S q => by
    unfold stS
    have e : decide ((0 : Int32) = 0 ∧ lR (s.2.1 142) n 7 = 1) = decide (lR (s.2.1 142) n 7 = 1) := by
      by_cases z : lR (s.2.1 142) n 7 = 1
      · rw [decide_eq_true z, decide_eq_true ⟨rfl, z⟩]
      · rw [decide_eq_false z, decide_eq_false (fun y => z y.2)]
    rw [if_pos (Or.inr q), decide_eq_true (Or.inl (by decide)), e, if_pos rfl]
  rw [one (o i) _ (Or.inl (by rw [ei, f1])), one (o j) _ (Or.inr (by rw [ej, f2])), ei, ej]
theorem dpD_sib {N : Nat → Int32} {l m : Nat} (ht : TrN N) (hl : l < 30) (h1 : N (1169 * l) = 1) (hm : m < 30) (m1 : N (1169 * m) = 1) (hp : N (1169 * m + 2) = N (1169 * l + 2)) (hne : ¬ m = l) : dpD N l m = false := by
  have s := inB_s ht hl h1
  unfold dpD
  rw [decide_eq_false hne, Bool.false_or]
  rcases trN_p ht hl h1 with z | ⟨p, z1, z2, z3, z4⟩
  · exact inB_n (by rw [hp]; exact z)
  · rw [inB_p ht hl hl h1 z1 z2] at s
    rw [inB_p ht hl hm m1 z1 (by rw [hp]; exact z2)]
    exact s
theorem merge12 {s : e_S} {g : ps_G} {l m i j st pc w h sz : Nat} {od : Nat → Int32} {o : Nat → Nat} (h1 : st < 25) (h2 : pc ≤ 24) (e1 : s.1 139 10 = Int32.ofNat st) (e2 : s.1 139 11 = Int32.ofNat pc) (hk : CpOk s w h sz od o) (hl : l < 30) (hl1 : s.2.1 142 (1169 * l) = 1) (h3 : ¬ 3 < s.2.1 142 (1169 * l + 1)) (hm : m < 30) (hm1 : s.2.1 142 (1169 * m) = 1) (h3m : ¬ 3 < s.2.1 142 (1169 * m + 1)) (hp : s.2.1 142 (1169 * m + 2) = s.2.1 142 (1169 * l + 2)) (hij : i < j) (hj : j < sz) (ei : o i = m) (ej : o j = l) (hq : ¬ s.2.1 142 (1169 * l + 3) ≤ 0) (hch : fX12_child (e_g s g) 139 (s.2.1 142 (1169 * l + 2)) (s.2.1 142 (1169 * l + 3) - 1) = some (Int32.ofNat m)) : ∃ R R2 F E T U V, fX12_merge (e_g s g) 139 (Int32.ofNat l) = some (e_g (fg12 (edM (sA (sA (sA (sA (cs (sF (sF (sF s 139 0 0) 139 19 (Int32.ofNat m)) 139 20 (Int32.ofNat l)) F E T U) 144 R) 142 (rmN (s.2.1 142) (dpD (s.2.1 142) l) l)) 144 R2) 142 (bpN (rmN (s.2.1 142) (dpD (s.2.1 142) l) l) m V)) st pc)) g) ∧ ∀ k, k < w * h → V k = (laS (aD s w h) w h (vwF s w h sz o 31 (Int32.ofNat l)) true (decide (lR (s.2.1 142) l 7 = 1)) (lR (s.2.1 142) l 5) (lR (s.2.1 142) l) (laS (aD s w h) w h (vwF s w h sz o 31 (Int32.ofNat m)) true (decide (lR (s.2.1 142) m 7 = 1)) (lR (s.2.1 142) m 5) (lR (s.2.1 142) m) (fun _ => 0, fun _ => 0))).1 k := by
  have sm : Sm s (sF (sF (sF s 139 0 0) 139 19 (Int32.ofNat m)) 139 20 (Int32.ofNat l)) := sm_F (sm_F (sm_F sm_rf (by decide)) (by decide)) (by decide)
  have ck := cpOk_s hk sm
  have hkk0 := hk
  have f19 : (sF (sF (sF s 139 0 0) 139 19 (Int32.ofNat m)) 139 20 (Int32.ofNat l)).1 139 19 = Int32.ofNat m := by simp (decide := true) only [ob_n, b2_n, tc_rn, tc_ln, F_sF, A_sF, R_sF, L_sF, F_sA, A_sA, R_sA, L_sA, F_sR, A_sR, R_sR, L_sR, F_sL, A_sL, R_sL, L_sL, and_true, true_and, and_false, false_and, and_self, reduceIte, sF_sF, sA_sA, false_or, or_false, true_or, or_true, not_false_eq_true, not_true_eq_false, decide_true, decide_false, Bool.true_or, Bool.or_true, Bool.false_and, Bool.true_and, Bool.false_or, Bool.or_false, Bool.and_true, Bool.and_false]
  have f20 : (sF (sF (sF s 139 0 0) 139 19 (Int32.ofNat m)) 139 20 (Int32.ofNat l)).1 139 20 = Int32.ofNat l := by simp (decide := true) only [ob_n, b2_n, tc_rn, tc_ln, F_sF, A_sF, R_sF, L_sF, F_sA, A_sA, R_sA, L_sA, F_sR, A_sR, R_sR, L_sR, F_sL, A_sL, R_sL, L_sL, and_true, true_and, and_false, false_and, and_self, reduceIte, sF_sF, sA_sA, false_or, or_false, true_or, or_true, not_false_eq_true, not_true_eq_false, decide_true, decide_false, Bool.true_or, Bool.or_true, Bool.false_and, Bool.true_and, Bool.false_or, Bool.or_false, Bool.and_true, Bool.and_false]
  have f10 : (sF (sF (sF s 139 0 0) 139 19 (Int32.ofNat m)) 139 20 (Int32.ofNat l)).1 139 10 = Int32.ofNat st := by simp (decide := true) only [ob_n, b2_n, tc_rn, tc_ln, F_sF, A_sF, R_sF, L_sF, F_sA, A_sA, R_sA, L_sA, F_sR, A_sR, R_sR, L_sR, F_sL, A_sL, R_sL, L_sL, and_true, true_and, and_false, false_and, and_self, reduceIte, sF_sF, sA_sA, false_or, or_false, true_or, or_true, not_false_eq_true, not_true_eq_false, decide_true, decide_false, Bool.true_or, Bool.or_true, Bool.false_and, Bool.true_and, Bool.false_or, Bool.or_false, Bool.and_true, Bool.and_false]; exact e1
  have f11 : (sF (sF (sF s 139 0 0) 139 19 (Int32.ofNat m)) 139 20 (Int32.ofNat l)).1 139 11 = Int32.ofNat pc := by simp (decide := true) only [ob_n, b2_n, tc_rn, tc_ln, F_sF, A_sF, R_sF, L_sF, F_sA, A_sA, R_sA, L_sA, F_sR, A_sR, R_sR, L_sR, F_sL, A_sL, R_sL, L_sL, and_true, true_and, and_false, false_and, and_self, reduceIte, sF_sF, sA_sA, false_or, or_false, true_or, or_true, not_false_eq_true, not_true_eq_false, decide_true, decide_false, Bool.true_or, Bool.or_true, Bool.false_and, Bool.true_and, Bool.false_or, Bool.or_false, Bool.and_true, Bool.and_false]; exact e2
  have eN : (sF (sF (sF s 139 0 0) 139 19 (Int32.ofNat m)) 139 20 (Int32.ofNat l)).2.1 142 = s.2.1 142 := sm.1 142 (by decide)
  have g1 := fun {n} (hn : n < 30) => get12 (s := s) (g := g) (l := n) (n := 1) hn (by omega)
  have g3 := get12 (s := s) (g := g) (n := 3) hl (by omega)
  have g2' := get12 (s := s) (g := g) (n := 2) hl (by omega)
  have ed := fun s' q1 q2 => edited12 (s := s') (g := g) h1 h2 q1 q2
  have aE : aD (sF (sF (sF s 139 0 0) 139 19 (Int32.ofNat m)) 139 20 (Int32.ofNat l)) w h = aD s w h := by
    unfold aD
    simp (decide := true) only [ob_n, b2_n, tc_rn, tc_ln, F_sF, A_sF, R_sF, L_sF, F_sA, A_sA, R_sA, L_sA, F_sR, A_sR, R_sR, L_sR, F_sL, A_sL, R_sL, L_sL, and_true, true_and, and_false, false_and, and_self, reduceIte, sF_sF, sA_sA, false_or, or_false, true_or, or_true, not_false_eq_true, not_true_eq_false, decide_true, decide_false, Bool.true_or, Bool.or_true, Bool.false_and, Bool.true_and, Bool.false_or, Bool.or_false, Bool.and_true, Bool.and_false]
  have isl : fX12_isLayer (e_g s g) 139 (Int32.ofNat l) = some 1 := by
    rw [isLayer12, isL_o hl, decide_eq_true hl1]; rfl
  have le3 : ∀ {v : Int32}, ¬ 3 < v → v ≤ 3 := fun {v} q => by rw [i_le]; rw [i_lt] at q; omega
  have start : fX12_merge (e_g s g) 139 (Int32.ofNat l) = Option.bind (fX12_composeGroups (e_g (sF (sF (sF s 139 0 0) 139 19 (Int32.ofNat m)) 139 20 (Int32.ofNat l)) g) 139) fun v15 => Option.bind (q_ob 12 v15 139) fun u16 => Option.bind (fX12_get v15 139 (Int32.ofNat l) (2 : Int32)) fun v17 => Option.bind (q_ob 12 v15 139) fun u18 => Option.bind (fX12_compose v15 139 v17 (1 : Int32) (0 : Int32)) fun v19 => Option.bind (q_ob 12 v19 139) fun u20 => Option.bind (fX12_takeAway v19 139 (Int32.ofNat l)) fun v21 => Option.bind (q_ob 12 v21 139) fun u22 => Option.bind (fX12_becomePixels v21 139 (Int32.ofNat m)) fun v23 => Option.bind (q_ob 12 v23 139) fun u24 => Option.bind (fX12_edited v23 139) fun v25 => Option.bind (q_ob 12 v25 139) fun u26 => Option.bind (fX12_forget v25 139) fun v27 => some v27 := by
    unfold fX12_merge jX12_merge_39 jX12_merge_82
    rw [ob139, ob_n, isl, ob_n, if_neg (by decide), ob_n, g3, ob_n, if_neg hq, ob_n, g2', ob_n, ob_n, ob_n, ob_n, hch, ob_n, ob_n, ob_n, if_pos (by decide), if_neg (n_neg (by omega)), ob_n, g1 hl, ob_n, if_neg h3, ob_n, g1 hm, ob_n, if_pos (le3 h3m), w139_0, ob_n, f139_0, F_sF, if_pos ⟨rfl, rfl⟩, ob_n, if_pos (by decide), w139_19, ob_n, w139_20, ob_n, ob139, ob_n]
  rw [start]
  generalize hs3 : sF (sF (sF s 139 0 0) 139 19 (Int32.ofNat m)) 139 20 (Int32.ofNat l) = s3 at sm ck f19 f20 f10 f11 eN aE
  obtain ⟨ht, ho, hrow, hw1, hh1, hw, hh, e13, e14, hdv, hC⟩ := id ck.1
  obtain ⟨F, E, T, U, m1, m2⟩ := groups12 (g := g) ck.1
  obtain ⟨c, c1, c2, c3⟩ := par_at ht hl (by rw [eN]; exact hl1)
  obtain ⟨E', T', U', cx⟩ := compose12 (s := s3) (g := g) (w := w) (h := h) (sz := sz) (c := c) (on := 1) (al := 0) (P := s3.2.1 142 (1169 * l + 2)) (f := F) (e := E) (t := T) (u := U) ht ho hrow hw1 hh1 hw hh e13 e14 hdv hC c2 c1 c3
  have g2 : fX12_get (e_g (cs s3 F E T U) g) 139 (Int32.ofNat l) 2 = some (s3.2.1 142 (1169 * l + 2)) := cs_get (n := 2) hl (by omega)
  have cv := cmF_2 (w := w) (h := h) (G := fun l k => F (576 * (l + 1) + k)) ho hij hj ei ej (by rw [eN]; exact hp) f19 f20
  generalize hF : cpT F (cmF s3 w h 1 0 (s3.2.1 142 (1169 * l + 2)) (fun l k => F (576 * (l + 1) + k)) o sz).1 (576 * c) (w * h) = F' at cx
  have eA : (cs s3 F' E' T' U').2.1 142 = s3.2.1 142 := cs_A (by decide)
  obtain ⟨R, tx⟩ := takeAway12 (s := cs s3 F' E' T' U') (g := g) (l := l) (by rw [eA]; exact ht) hl (by rw [eA, eN]; exact hl1)
  rw [eA, eN] at tx
  rw [eN] at ht c2 ho
  have e9 : (sA (sA (cs s3 F' E' T' U') 144 R) 142 (rmN (s.2.1 142) (dpD (s.2.1 142) l) l)).2.1 142 = rmN (s.2.1 142) (dpD (s.2.1 142) l) l := by rw [A_sA, if_pos rfl]
  have e5 : (sA (sA (cs s3 F' E' T' U') 144 R) 142 (rmN (s.2.1 142) (dpD (s.2.1 142) l) l)).2.1 145 = F' := by rw [A_sA, if_neg (by decide), A_sA, if_neg (by decide), cs_145]
  obtain ⟨R2, bx⟩ := becomePixels12 (s := sA (sA (cs s3 F' E' T' U') 144 R) 142 (rmN (s.2.1 142) (dpD (s.2.1 142) l) l)) (g := g) (l := m) (w := w) (h := h) (c := c) (by rw [e9]; exact trN_rm ht ho hl hl1) hm hw hh (by rw [F_sA, F_sA, cs_F]; exact e13) (by rw [F_sA, F_sA, cs_F]; exact e14) (by rw [e9, rmN_i (by omega) (by omega) (by omega), hp]; exact c2) c1
  rw [e9, e5] at bx
  refine ⟨R, R2, F', E', T', U', (fun k => if k < w * h then F' (576 * c + k) else 0), ?_, fun k hkk => ?_⟩
  · rw [m1, ob_n, ob139, ob_n, g2, ob_n, ob_n, cx, ob_n, ob139, ob_n, tx, ob_n, ob139, ob_n, bx, ob_n, ob139, ob_n, ed _ (by rw [F_sA, F_sA, F_sA, F_sA, cs_F]; exact f10) (by rw [F_sA, F_sA, F_sA, F_sA, cs_F]; exact f11), ob_n, ob139, ob_n, forget12, ob_n]
    rfl
  · show (if k < w * h then F' (576 * c + k) else 0) = _
    have := cpT_in (A := F) (N := (cmF s3 w h 1 0 (s3.2.1 142 (1169 * l + 2)) (fun l k => F (576 * (l + 1) + k)) o sz).1) (b := 576 * c) hkk
    rw [hF] at this
    rw [if_pos hkk, this, cv, eN, aE]
    have hG : ∀ n, n < 30 → s.2.1 142 (1169 * n) = 1 → lR (s.2.1 142) n 1 = 1 → ∀ k, k < w * h → F (576 * (n + 1) + k) = vwF s w h sz o 31 (Int32.ofNat n) k := fun n hn n1 q k hk => by
      have a := m2 n hn (by rw [eN]; exact n1) (by rw [eN]; exact q) k hk
      rw [ck.2] at a
      rw [a]
      exact vwF_st hkk0 30 31 n hn n1 (by omega) (by omega) k hk
    have hAA : ∀ r V V', (∀ k, k < w * h → V k = V' k) → ∀ k, k < w * h → aD s w h r V k = aD s w h r V' k := fun r V V' e k hk => by unfold aD; exact ad_c hw1 hh1 e hk
    have in1 := laS_c (A := aD s w h) (w := w) (h := h) (n := w * h) (G := fun k => F (576 * (m + 1) + k)) (G' := vwF s w h sz o 31 (Int32.ofNat m)) (sh := true) (cl := decide (lR (s.2.1 142) m 7 = 1)) (md := lR (s.2.1 142) m 5) (r := lR (s.2.1 142) m) (S := (fun _ => 0, fun _ => 0)) (S' := (fun _ => 0, fun _ => 0)) (hAA _) (hG m hm hm1) (fun _ _ => rfl) (fun _ _ => rfl)
    exact (laS_c (n := w * h) (hAA _) (hG l hl hl1) in1.1 in1.2).1 k hkk
