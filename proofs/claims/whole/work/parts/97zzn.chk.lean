-- needs: 97zzm
theorem w4_tp {P : (Nat → Int32) × Nat} {v : Int32} : w4V P v = (tp P.1 P.2 v, P.2 + 4) := by
  unfold w4V obV tp
  rw [n_sh.1, n_sh.2.1, n_sh.2.2.1, shr_0]
theorem one_b {x : Int32} : x &&& 1 = 0 ∨ x &&& 1 = 1 := by
  have h := and_r (x := x) (m := 1) (k := 1) (by decide) (by decide)
  have e0 : (0 : Int32).toInt = 0 := by decide
  have e1 : (1 : Int32).toInt = 1 := by decide
  rw [i_eq, i_eq, e0, e1]
  omega
theorem checked12 {g : ps_G} {c x : Int32} : fX12_checked g c x = some (c1V (c ^^^ x) 8) := by
  have lp := lp_0 (b := fun t => bX12_checked_6 g t.1 t.2) (s := (c ^^^ x, (0 : Int32))) (r := c1V (c ^^^ x) 8) (fun k => (c1V (c ^^^ x) k, Int32.ofNat k)) 8 rfl (fun k hk => ?_) ?_
  · unfold fX12_checked
    rw [lp, ob_n]
  · have q : ¬ (8 : Int32) ≤ Int32.ofNat k := show ¬ Int32.ofNat 8 ≤ Int32.ofNat k from nle hk (by omega)
    have e : c1V (c ^^^ x) (k + 1) = if c1V (c ^^^ x) k &&& 1 = 0 then q_ush (c1V (c ^^^ x) k) 1 else q_ush (c1V (c ^^^ x) k) 1 ^^^ -306674912 := rfl
    show bX12_checked_6 _ _ _ = _
    unfold bX12_checked_6
    dsimp only
    rw [if_neg q, n_suc, e]
    rcases one_b (x := c1V (c ^^^ x) k) with z | z
    · rw [z, if_pos (show ¬ (0 : Int32) = 1 by decide), if_pos rfl]
    · rw [z, if_neg (fun h => h rfl), if_neg (show ¬ (1 : Int32) = 0 by decide)]
  · show bX12_checked_6 _ _ _ = _
    unfold bX12_checked_6
    dsimp only
    rw [if_pos (show (8 : Int32) ≤ Int32.ofNat 8 by decide)]
/-- bytes -/
def ByO (P : (Nat → Int32) × Nat) : Prop := ∀ i, i < P.2 → rg (P.1 i) 0 255
theorem by_o {P : (Nat → Int32) × Nat} {b : Int32} (h : ByO P) : ByO (obV P b) := fun i hi => by
  have hi' : i < P.2 + 1 := hi
  show rg (upd P.1 P.2 (b &&& 255) i) 0 255 = true
  rw [upd_r]; split
  · exact by_r
  · exact h i (by omega)
theorem by_4 {P : (Nat → Int32) × Nat} {v : Int32} (h : ByO P) : ByO (w4V P v) := by_o (by_o (by_o (by_o h)))
theorem and_b {x : Int32} (h : rg x 0 255) : x &&& 255 = x := by
  have e0 : (0 : Int32).toInt = 0 := by decide
  have e5 : (255 : Int32).toInt = 255 := by decide
  rw [rg_i, e0, e5] at h
  have hb : x.toBitVec.toNat ≤ 255 := by
    have e2 := BitVec.toInt_eq_toNat_cond x.toBitVec
    have lt := x.toBitVec.isLt
    have e : x.toInt = x.toBitVec.toInt := rfl
    rw [e, e2] at h
    split at h <;> omega
  apply Int32.toBitVec_inj.mp
  apply BitVec.eq_of_toNat_eq
  rw [Int32.toBitVec_and, BitVec.toNat_and]
  have e : (255 : Int32).toBitVec.toNat = 2 ^ 8 - 1 := by decide
  rw [e, Nat.and_two_pow_sub_one_eq_mod]
  exact Nat.mod_eq_of_lt (by omega)
/-- a chunk is opened, closed -/
def opV (P : (Nat → Int32) × Nat) (v : Int32) : (Nat → Int32) × Nat := w4V (w4V P 0) v
def lnO (P : (Nat → Int32) × Nat) (p : Nat) : (Nat → Int32) × Nat := (tp P.1 p (Int32.ofNat (P.2 - p - 8)), P.2)
def csV (P : (Nat → Int32) × Nat) (p : Nat) : (Nat → Int32) × Nat := w4V (lnO P p) (ckV (lnO P p).1 (p + 4) (P.2 - p - 4) ^^^ -1)
theorem open7 {s : e_S} {g : ps_G} {P : (Nat → Int32) × Nat} {v : Int32} (h : P.2 + 8 ≤ 3000) : fX7_beginChunk (e_g (oC s P) g) 122 v = some (Int32.ofNat P.2, e_g (oC s (opV P v)) g) := by
  have f1 : (oC s P).1 122 1 = Int32.ofNat P.2 := by unfold oC; rw [F_sF, if_pos ⟨rfl, rfl⟩]
  have h2 : (w4V P 0).2 + 4 ≤ 3000 := show P.2 + 1 + 1 + 1 + 1 + 4 ≤ 3000 by omega
  unfold fX7_beginChunk
  rw [f122_1, f1, ob_n, ob122, ob_n, four7 (show P.2 + 4 ≤ 3000 by omega), ob_n, ob122, ob_n, four7 h2, ob_n]
  rfl
theorem sb_n {x y : Nat} (h : y ≤ x) (hx : x < 2147483648) : Int32.ofNat x - Int32.ofNat y = Int32.ofNat (x - y) := by
  refine n_of ?_
  rw [i_sub (by rw [n_int (by omega), n_int (by omega)]; omega) (by rw [n_int (by omega), n_int (by omega)]; omega), n_int (by omega), n_int (by omega)]
  omega
theorem close7 {s : e_S} {g : ps_G} {P : (Nat → Int32) × Nat} {p : Nat} (h : p + 8 ≤ P.2) (h2 : P.2 + 4 ≤ 3000) : fX7_endChunk (e_g (oC s P) g) 122 (Int32.ofNat p) = some (e_g (oC s (csV P p)) g) := by
  have f1 : (oC s P).1 122 1 = Int32.ofNat P.2 := by unfold oC; rw [F_sF, if_pos ⟨rfl, rfl⟩]
  have es : sF (oC s P) 122 1 (Int32.ofNat p) = oC s (P.1, p) := by unfold oC; rw [sF_sF]
  have ln : Int32.ofNat P.2 - Int32.ofNat p - (8 : Int32) = Int32.ofNat (P.2 - p - 8) := by
    rw [sb_n (by omega) (by omega)]
    exact sb_n (y := 8) (by omega) (by omega)
  have f4 := four7 (s := s) (g := g) (P := (P.1, p)) (v := Int32.ofNat (P.2 - p - 8)) (show p + 4 ≤ 3000 by omega)
  rw [w4_tp] at f4
  have es2 : sF (oC s (tp P.1 p (Int32.ofNat (P.2 - p - 8)), p + 4)) 122 1 (Int32.ofNat P.2) = oC s (lnO P p) := by unfold oC lnO; rw [sF_sF]
  have cr := crc7 (s := s) (g := g) (P := lnO P p) (a := p + 4) (n := P.2 - p - 4) (show p + 4 + (P.2 - p - 4) ≤ 3000 by omega)
  rw [show p + 4 + (P.2 - p - 4) = P.2 by omega] at cr
  have p4 : Int32.ofNat p + (4 : Int32) = Int32.ofNat (p + 4) := n_add (m := 4)
  unfold fX7_endChunk
  rw [f122_1, f1, ob_n, w122_1, ob_n, es, ob122, ob_n, ln, f4, ob_n, w122_1, ob_n, es2, f122_0, ob_n, ob_n, p4, cr, ob_n, ob122, ob_n, four7 (P := lnO P p) (show P.2 + 4 ≤ 3000 by omega), ob_n]
  rfl
theorem openC12 {s : e_S} {g : ps_G} {P : (Nat → Int32) × Nat} {v : Int32} (h : P.2 + 8 ≤ 3000) : fX12_openChunk (e_g (oM s P) g) 139 v = some (e_g (oM (sF s 139 73 (Int32.ofNat P.2)) (opV P v)) g) := by
  have f1 : (oM s P).1 139 7 = Int32.ofNat P.2 := by unfold oM; rw [F_sF, if_pos ⟨rfl, rfl⟩]
  have es : sF (oM s P) 139 73 (Int32.ofNat P.2) = oM (sF s 139 73 (Int32.ofNat P.2)) P := by
    unfold oM
    rw [sF_cm (show ¬ (139 = 139 ∧ 7 = 73) by decide), sA_sF]
  have h2 : (w4V P 0).2 + 4 ≤ 3000 := show P.2 + 1 + 1 + 1 + 1 + 4 ≤ 3000 by omega
  unfold fX12_openChunk
  rw [f139_7, f1, ob_n, w139_73, ob_n, es, ob139, ob_n, outWord12 (show P.2 + 4 ≤ 3000 by omega), ob_n, ob139, ob_n, outWord12 h2, ob_n]
  rfl
theorem by_ln {P : (Nat → Int32) × Nat} {p : Nat} (h : ByO P) : ByO (lnO P p) := fun i hi => by
  show rg (tp P.1 p _ i) 0 255 = true
  unfold tp
  rw [upd_r]; split
  · exact by_r
  · rw [upd_r]; split
    · exact by_r
    · rw [upd_r]; split
      · exact by_r
      · rw [upd_r]; split
        · exact by_r
        · exact h i hi
theorem by_cs {P : (Nat → Int32) × Nat} {p : Nat} (h : ByO P) : ByO (csV P p) := by_4 (by_ln h)
theorem close12 {s : e_S} {g : ps_G} {P : (Nat → Int32) × Nat} {p : Nat} (hs : s.1 139 73 = Int32.ofNat p) (hB : ByO P) (h : p + 8 ≤ P.2) (h2 : P.2 + 4 ≤ 3000) : fX12_closeChunk (e_g (oM s P) g) 139 = some (e_g (oM s (csV P p)) g) := by
  have f7 : ∀ P : (Nat → Int32) × Nat, (oM s P).1 139 7 = Int32.ofNat P.2 := fun P => by unfold oM; rw [F_sF, if_pos ⟨rfl, rfl⟩]
  have f73 : ∀ P : (Nat → Int32) × Nat, (oM s P).1 139 73 = Int32.ofNat p := fun P => by unfold oM; rw [F_sF, if_neg (by decide), F_sA]; exact hs
  have ar : ∀ P : (Nat → Int32) × Nat, (oM s P).2.1 141 = P.1 := fun P => by unfold oM; rw [A_sF, A_sA, if_pos rfl]
  have ln : Int32.ofNat P.2 - Int32.ofNat p - (8 : Int32) = Int32.ofNat (P.2 - p - 8) := by
    rw [sb_n (by omega) (by omega)]
    exact sb_n (y := 8) (by omega) (by omega)
  generalize hv : Int32.ofNat (P.2 - p - 8) = v at ln
  have st : ∀ (O : Nat → Int32) (k : Nat), k < 4 → bX12_closeChunk_15 139 v (Int32.ofNat k) (e_g (oM s (O, P.2)) g) = some (.inl (Int32.ofNat (k + 1), e_g (oM s (upd O (p + k) (q_shr v (24 - 8 * Int32.ofNat k) &&& 255), P.2)) g)) := fun O k hk => by
    have c : ¬ (4 : Int32) ≤ Int32.ofNat k := show ¬ Int32.ofNat 4 ≤ Int32.ofNat k from nle hk (by omega)
    unfold bX12_closeChunk_15
    rw [if_neg c, f139_6, ob_n, ob_n, f139_73, f73, ob_n, n_add, u141, n_idx (by omega), if_neg (n_in2 (show p + k < 16000 by omega) (by decide)), ob_n, n_suc, ar]
    unfold oM
    rw [sA_sF, sA_sA]
  have lp1 : q_lp (fun t => bX12_closeChunk_15 139 v t.1 t.2) ((0 : Int32), e_g (oM s P) g) = some (e_g (oM s (lnO P p)) g) := by
    have e0 : (24 : Int32) - 8 * Int32.ofNat 0 = 24 := by decide
    have e1 : (24 : Int32) - 8 * Int32.ofNat 1 = 16 := by decide
    have e2 : (24 : Int32) - 8 * Int32.ofNat 2 = 8 := by decide
    have e3 : (24 : Int32) - 8 * Int32.ofNat 3 = 0 := by decide
    have t0 := st P.1 0 (by omega)
    have t1 := st (upd P.1 (p + 0) (q_shr v (24 - 8 * Int32.ofNat 0) &&& 255)) 1 (by omega)
    have t2 := st (upd (upd P.1 (p + 0) (q_shr v (24 - 8 * Int32.ofNat 0) &&& 255)) (p + 1) (q_shr v (24 - 8 * Int32.ofNat 1) &&& 255)) 2 (by omega)
    have t3 := st (upd (upd (upd P.1 (p + 0) (q_shr v (24 - 8 * Int32.ofNat 0) &&& 255)) (p + 1) (q_shr v (24 - 8 * Int32.ofNat 1) &&& 255)) (p + 2) (q_shr v (24 - 8 * Int32.ofNat 2) &&& 255)) 3 (by omega)
    rw [e0] at t0 t1 t2 t3
    rw [e1] at t1 t2 t3
    rw [e2] at t2 t3
    rw [e3] at t3
    rw [lp_go (b := fun t => bX12_closeChunk_15 139 v t.1 t.2) (s := ((0 : Int32), e_g (oM s P) g)) t0, lp_go (b := fun t => bX12_closeChunk_15 139 v t.1 t.2) t1, lp_go (b := fun t => bX12_closeChunk_15 139 v t.1 t.2) t2, lp_go (b := fun t => bX12_closeChunk_15 139 v t.1 t.2) t3]
    refine lp_end ?_
    show bX12_closeChunk_15 _ _ _ _ = _
    unfold bX12_closeChunk_15
    dsimp only
    rw [if_pos (show (4 : Int32) ≤ Int32.ofNat (3 + 1) by decide)]
    unfold lnO tp
    rw [hv]
    rfl
  have hb := by_ln (p := p) hB
  have lp2 : q_lp (fun t => bX12_closeChunk_59 (e_g (oM s (lnO P p)) g) 139 t.1 t.2) ((-1 : Int32), Int32.ofNat (p + 4)) = some (ckV (lnO P p).1 (p + 4) (P.2 - p - 4)) := by
    refine lp_0 (fun k => (ckV (lnO P p).1 (p + 4) k, Int32.ofNat (p + 4 + k))) (P.2 - p - 4) rfl (fun k hk => ?_) ?_
    · have ab := and_b (hb (p + 4 + k) (show p + 4 + k < P.2 by omega))
      have ek : ckV (lnO P p).1 (p + 4) (k + 1) = c1V (ckV (lnO P p).1 (p + 4) k ^^^ ((lnO P p).1 (p + 4 + k) &&& 255)) 8 := rfl
      show bX12_closeChunk_59 _ _ _ _ = _
      unfold bX12_closeChunk_59
      dsimp only
      rw [f139_7, f7, ob_n, if_neg (nle (show p + 4 + k < (lnO P p).2 from show p + 4 + k < P.2 by omega) (show P.2 < 2147483648 by omega)), f139_6, ob_n, ob_n, a141, n_idx (by omega), if_neg (n_in2 (show p + 4 + k < 16000 by omega) (by decide)), ob_n, ar, checked12, ob_n, n_suc, ek, ab]
      rfl
    · show bX12_closeChunk_59 _ _ _ _ = _
      unfold bX12_closeChunk_59
      dsimp only
      rw [f139_7, f7, ob_n, if_pos (by rw [show p + 4 + (P.2 - p - 4) = P.2 by omega]; exact nlr (show P.2 < 2147483648 by omega))]
  have p4 : Int32.ofNat p + (4 : Int32) = Int32.ofNat (p + 4) := n_add (m := 4)
  unfold fX12_closeChunk
  rw [f139_7, f7, ob_n, f139_73, f73, ob_n, ln, lp1, ob_n, f139_73, f73, ob_n, p4, lp2, ob_n, ob139, ob_n, outWord12 (P := lnO P p) (show P.2 + 4 ≤ 3000 by omega), ob_n]
  rfl
