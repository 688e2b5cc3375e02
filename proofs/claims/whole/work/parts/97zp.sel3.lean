-- needs: 97zo
/-! ===== select ===== -/
theorem g7_sm {s s' : e_S} {w h : Nat} (h7 : G7 s w h) (q : Sm s s') : G7 s' w h := by
  have a1 : s'.2.1 90 = s.2.1 90 := q.1 90 (by decide)
  have a2 : s'.2.1 155 = s.2.1 155 := q.1 155 (by decide)
  have b1 : s'.1 139 13 = s.1 139 13 := q.2.1 (139, 13) (by decide)
  have b2 : s'.1 139 14 = s.1 139 14 := q.2.1 (139, 14) (by decide)
  have b3 : s'.1 89 0 = s.1 89 0 := q.2.1 (89, 0) (by decide)
  have b4 : s'.1 89 1 = s.1 89 1 := q.2.1 (89, 1) (by decide)
  unfold G7 at h7 ⊢
  rw [a1, a2, b1, b2, b3, b4]
  exact h7
theorem jnR_v {way : Int32} {w h : Nat} {o v v' : Nat → Int32} (e : ∀ k, k < w * h → v k = v' k) : jnR way w h o v = jnR way w h o v' := by
  unfold jnR
  funext k
  by_cases q : k < h * w
  · have c1 := cpT_in (A := o) (N := fun k => jnV way (o k) (v k)) (b := 0) q
    have c2 := cpT_in (A := o) (N := fun k => jnV way (o k) (v' k)) (b := 0) q
    rw [Nat.zero_add] at c1 c2
    rw [c1, c2, e k (by rw [Nat.mul_comm]; exact q)]
  · rw [cpT_out (by omega), cpT_out (by omega)]
/-- the first lines for a pixel -/
theorem hd141 {s : e_S} {g : ps_G} {w h x y : Nat} {wh way a b c d : Int32} {F : Nat → Int32} (hw : w ≤ 24) (hh : h ≤ 24) (e0 : s.1 139 13 = Int32.ofNat w) (hx : x < w) (hy : y < h) : bX12_select_141 139 wh way a b c d (Int32.ofNat y) (Int32.ofNat x) (e_g (sA s 155 F) g) = (if ¬ wh = 0 then (if ¬ wh = (1 : Int32) then (if ¬ wh = (2 : Int32) then (if ¬ wh = (5 : Int32) then (jX12_select_289_141 (e_g (sA s 155 F) g) 139 wh way a b c d (Int32.ofNat y) (Int32.ofNat x) (Int32.ofNat (y * w + x)) (s.2.1 156 (y * w + x))) else (Option.bind (q_ob 12 (e_g (sA s 155 F) g) 139) fun u61 => Option.bind (fX12_get (e_g (sA s 155 F) g) 139 a (8 : Int32)) fun v62 => Option.bind (q_ob 12 (e_g (sA s 155 F) g) 139) fun u63 => Option.bind (fX12_get (e_g (sA s 155 F) g) 139 a (9 : Int32)) fun v64 => Option.bind (q_ob 12 (e_g (sA s 155 F) g) 139) fun u65 => Option.bind (fX12_own (e_g (sA s 155 F) g) 139 a (Int32.ofNat x - v62) (Int32.ofNat y - v64)) fun v66 => jX12_select_289_141 (e_g (sA s 155 F) g) 139 wh way a b c d (Int32.ofNat y) (Int32.ofNat x) (Int32.ofNat (y * w + x)) (fX12_alpha v66))) else (Option.bind (fX12_ellipse (e_g (sA s 155 F) g) (Int32.ofNat x) (Int32.ofNat y) a b c d) fun v69 => jX12_select_289_141 (e_g (sA s 155 F) g) 139 wh way a b c d (Int32.ofNat y) (Int32.ofNat x) (Int32.ofNat (y * w + x)) v69)) else (jX12_select_289_141 (e_g (sA s 155 F) g) 139 wh way a b c d (Int32.ofNat y) (Int32.ofNat x) (Int32.ofNat (y * w + x)) (if (Int32.ofNat x < a) ∨ (((a + c) ≤ Int32.ofNat x) ∨ ((Int32.ofNat y < b) ∨ ((b + d) ≤ Int32.ofNat y))) then (0 : Int32) else (255 : Int32)))) else (jX12_select_289_141 (e_g (sA s 155 F) g) 139 wh way a b c d (Int32.ofNat y) (Int32.ofNat x) (Int32.ofNat (y * w + x)) (255 : Int32))) := by
  have hwh := wh_le hw hh
  have hlt := at_lt hx hy
  have r6 : q_aI (e_g (sA s 155 F) g) 156 (Int32.ofNat (y * w + x)) = some (s.2.1 156 (y * w + x)) := by
    rw [rdI t156 (by omega), A_sA, if_neg (by decide)]
  unfold bX12_select_141
  rw [f139_13, F_sA, e0, ob_n, if_neg (nle hx (by omega)), ob139, ob_n, at12n (by rw [F_sA]; exact e0), ob_n, f139_32, ob_n, ob_n, r6, ob_n]
theorem selH {s : e_S} {g : ps_G} {w h : Nat} {sh way a b c d : Int32} (hw : w ≤ 24) (hh : h ≤ 24) (e13 : s.1 139 13 = Int32.ofNat w) (e14 : s.1 139 14 = Int32.ofNat h) : fX12_select (e_g s g) 139 sh way a b c d = if (rg sh 0 6 && (rg way 0 3 && okS w h sh a b c d)) then jX12_select_39 (e_g s g) 139 sh way a b c d 0 else some (0, e_g (sF s 139 0 1) g) := by
  have bad : jX12_select_34 (e_g s g) 139 sh way a b c d = some (0, e_g (sF s 139 0 1) g) := by
    unfold jX12_select_34 jX12_select_39 jX12_select_70
    rw [if_neg (by decide), w139_0, ob_n, f139_0, F_sF, if_pos ⟨rfl, rfl⟩, ob_n, if_neg (by decide)]
  unfold fX12_select
  rw [rin, rin, bad]
  by_cases q1 : rg sh 0 6 = true
  · rw [q1]
    by_cases q2 : rg way 0 3 = true
    · rw [q2, if_neg (by decide), if_neg (by decide), ob139, ob_n, isRight12 hw hh e13 e14 q1, ob_n]
      by_cases q3 : okS w h sh a b c d = true
      · rw [q3, if_pos (by decide)]; rfl
      · rw [(by simpa using q3 : okS w h sh a b c d = false), if_neg (by decide)]; rfl
    · rw [(by simpa using q2 : rg way 0 3 = false), if_neg (by decide), if_pos (by decide)]; rfl
  · rw [(by simpa using q1 : rg sh 0 6 = false), if_pos (by decide)]; rfl
/-- the reference where nothing but the pixel decides -/
theorem selR {S : e_S} {g : ps_G} {w h : Nat} {sh way a b c d : Int32} {V : Nat → Int32} (hw : w ≤ 24) (hh : h ≤ 24) (e13 : S.1 139 13 = Int32.ofNat w) (e14 : S.1 139 14 = Int32.ofNat h) (n3 : ¬ sh = 3) (n4 : ¬ sh = 4) (n6 : ¬ sh = 6) (hd : jX12_select_39 (e_g S g) 139 sh way a b c d 0 = jX12_select_70 (e_g S g) 139 sh way a b c d 139 0) (hV : ∀ F y x, y < h → x < w → bX12_select_141 139 sh way a b c d (Int32.ofNat y) (Int32.ofNat x) (e_g (sA (sF S 139 0 0) 155 F) g) = jX12_select_289_141 (e_g (sA (sF S 139 0 0) 155 F) g) 139 sh way a b c d (Int32.ofNat y) (Int32.ofNat x) (Int32.ofNat (y * w + x)) (V (y * w + x))) : jX12_select_39 (e_g S g) 139 sh way a b c d 0 = some (Int32.ofNat (cnt (abC (jnR way w h (S.2.1 155) V)) (w * h)), e_g (sA (sF S 139 0 0) 155 (jnR way w h (S.2.1 155) V)) g) := by
  have j := join12 (s := sF S 139 0 0) (g := g) (wh := sh) (way := way) (a := a) (b := b) (c := c) (d := d) (V := V) hw hh (by rw [F_sF, if_neg (by decide)]; exact e13) (by rw [F_sF, if_neg (by decide)]; exact e14) hV
  rw [A_sF] at j
  rw [hd]
  unfold jX12_select_70 jX12_select_111
  rw [w139_0, ob_n, f139_0, F_sF, if_pos ⟨rfl, rfl⟩, ob_n, if_pos (by decide), if_pos ⟨n3, n4⟩, if_pos n6, j]
theorem hd39 {S : e_S} {g : ps_G} {sh way a b c d : Int32} (n5 : ¬ sh = 5) : jX12_select_39 (e_g S g) 139 sh way a b c d 0 = jX12_select_70 (e_g S g) 139 sh way a b c d 139 0 := by
  unfold jX12_select_39 jX12_select_69
  rw [if_pos rfl, if_pos n5]
/-- what is seen, and who is like a pixel -/
theorem wandR {s : e_S} {g : ps_G} {w h x y sz : Nat} {c sp : Int32} {od : Nat → Int32} {o : Nat → Nat} (hk : CpOk s w h sz od o) (hx : x < w) (hy : y < h) : ∃ F E T U M Q, fX12_wand (e_g s g) 139 (Int32.ofNat x) (Int32.ofNat y) c sp = some (e_g (sA (sA (cs s F E T U) 156 M) 157 Q) g) ∧ (∀ k, k < w * h → F k = vwF s w h sz o 31 (-1) k) ∧ (¬ sp = 0 → WE w h (fun m => lkB (F m) (F (y * w + x)) c) (y * w + x) M) ∧ (sp = 0 → ∀ k, k < w * h → M k = akV F (F (y * w + x)) c k) := by
  obtain ⟨ht, ho, hrow, hw1, hh1, hw, hh, e1, e2, hdv, hC⟩ := id hk
  have hwh := wh_le hw hh
  have hlt := at_lt hx hy
  obtain ⟨F, E, T, U, m1, m2⟩ := composeAll12 (g := g) hk
  have zF : (cs s F E T U).1 = s.1 := cs_F
  have z145 : (cs s F E T U).2.1 145 = F := cs_145
  generalize hz : cs s F E T U = z at m1 zF z145
  have rf : q_aI (e_g z g) 145 (Int32.ofNat (y * w + x)) = some (F (y * w + x)) := by
    rw [a145, n_idx (by omega), if_neg (n_in2 (N := 18000) (by omega) (by decide)), z145]
  have fill := fillN (fun M => e_g (sA z 156 M) g) 0 (w * h) (fun k => if sp = 0 then akV F (F (y * w + x)) c k else 0) (z.2.1 156) (bO := fun t => bX12_wand_31 139 (Int32.ofNat x) (Int32.ofNat y) c sp (F (y * w + x)) (Int32.ofNat (w * h)) t.1 t.2) (fun M i hi _ => ?_) (fun M => ?_)
  · rw [sA_id] at fill
    generalize hM0 : cpT (z.2.1 156) (fun k => if sp = 0 then akV F (F (y * w + x)) c k else 0) 0 (w * h) = M0 at fill
    have M0k : ∀ k, k < w * h → M0 k = if sp = 0 then akV F (F (y * w + x)) c k else 0 := fun k hk => by
      have := cpT_in (A := z.2.1 156) (N := fun k => if sp = 0 then akV F (F (y * w + x)) c k else 0) (b := 0) hk
      rw [Nat.zero_add, hM0] at this
      exact this
    have at1 : ∀ S : e_S, S.1 = z.1 → fX12_at (e_g S g) 139 (Int32.ofNat x) (Int32.ofNat y) = some (Int32.ofNat (y * w + x)) := fun S e => at12n (by rw [e, zF]; exact e1)
    have pre : fX12_wand (e_g s g) 139 (Int32.ofNat x) (Int32.ofNat y) c sp = if ¬ sp = 0 then (Option.bind (q_fR 12 33 (e_g (sA z 156 M0) g) 139) fun v30 => Option.bind (v30) fun a31 => Option.bind (q_ob 12 (e_g (sA z 156 M0) g) 139) fun u32 => Option.bind (fX12_at (e_g (sA z 156 M0) g) 139 (Int32.ofNat x) (Int32.ofNat y)) fun v33 => Option.bind (q_wI (e_g (sA z 156 M0) g) a31 (0 : Int32) v33) fun g34 => Option.bind (q_fR 12 32 g34 139) fun v35 => Option.bind (v35) fun a36 => Option.bind (q_ob 12 g34 139) fun u37 => Option.bind (fX12_at g34 139 (Int32.ofNat x) (Int32.ofNat y)) fun v38 => Option.bind (q_wI g34 a36 v38 (255 : Int32)) fun g39 => Option.bind (q_lp (fun s => bX12_wand_114 139 c (F (y * w + x)) s.1 s.2) ((1 : Int32), g39)) fun s112 => some s112) else (some (e_g (sA z 156 M0) g)) := by
      unfold fX12_wand
      rw [ob139, ob_n, m1, ob_n, f139_16, ob_n, ob_n, ob139, ob_n, at1 _ rfl, ob_n, rf, ob_n, f139_13, zF, e1, ob_n, f139_14, zF, e2, ob_n, n_mul, fill, ob_n]
    rw [pre]
    by_cases q : sp = 0
    · rw [if_neg (fun y => y q)]
      refine ⟨F, E, T, U, M0, z.2.1 157, ?_, m2, fun y => absurd q y, fun _ k hk => by rw [M0k k hk, if_pos q]⟩
      have : (sA z 156 M0).2.1 157 = z.2.1 157 := by rw [A_sA, if_neg (by decide)]
      rw [hz, ← this, sA_id]
    · rw [if_pos q]
      obtain ⟨M, Q, l1, l2⟩ := wand12 (s := z) (g := g) (w := w) (h := h) (x := x) (y := y) (c := c) (M0 := M0) hw hh (by rw [zF]; exact e1) (by rw [zF]; exact e2) hx hy (fun k hk => by rw [M0k k hk, if_neg q])
      rw [z145] at l1 l2
      refine ⟨F, E, T, U, M, Q, ?_, m2, fun _ => l2, fun y => absurd y q⟩
      have w0 : ∀ S : e_S, q_wI (e_g S g) 157 0 (Int32.ofNat (y * w + x)) = some (e_g (sA S 157 (upd (S.2.1 157) 0 (Int32.ofNat (y * w + x)))) g) := fun S => by
        rw [u157]
        exact if_neg (by decide)
      have v157 : (sA z 156 M0).2.1 157 = z.2.1 157 := by rw [A_sA, if_neg (by decide)]
      have v156 : ∀ X, (sA (sA z 156 M0) 157 X).2.1 156 = M0 := fun X => by rw [A_sA, if_neg (by decide), A_sA, if_pos rfl]
      rw [hz, f139_33, ob_n, ob_n, ob139, ob_n, at1 _ (by rw [F_sA]), ob_n, w0, ob_n, v157, f139_32, ob_n, ob_n, ob139, ob_n, at1 _ (by rw [F_sA, F_sA]), ob_n, wrI t156 (by omega) (by omega), ob_n, v156, sA_cm (i := 157) (j := 156) (by decide), sA_sA, l1, ob_n]
  · have v145 : (sA z 156 M).2.1 145 = F := by rw [A_sA, if_neg (by decide)]; exact z145
    have v156 : (sA z 156 M).2.1 156 = M := by rw [A_sA, if_pos rfl]
    have rs9 : q_aI (e_g (sA z 156 M) g) 145 (Int32.ofNat i) = some (F i) := by
      rw [a145, n_idx (by omega), if_neg (n_in2 (N := 18000) (by omega) (by decide)), v145]
    show bX12_wand_31 _ _ _ _ _ _ _ _ _ = _
    unfold bX12_wand_31 jX12_wand_71_31 jX12_wand_72_31
    dsimp only
    rw [if_neg (nle hi (by omega)), f139_32, ob_n, ob_n, n_suc, Nat.zero_add]
    simp only [ob_n]
    rw [wrI t156 (by omega) (by omega), wrI t156 (by omega) (by omega), v156, sA_sA, sA_sA]
    by_cases q : sp = 0
    · rw [if_neg (fun y => y q), if_pos q, f139_16, ob_n, ob_n, rs9, ob_n, alike12, ob_n]
      unfold akV
      cases lkB (F i) (F (y * w + x)) c
      · rw [if_pos (show (if false = true then (1 : Int32) else 0) = 0 from rfl), ob_n]; rfl
      · rw [if_neg (by decide), ob_n]; rfl
    · rw [if_pos q, if_neg q, ob_n]
  · show bX12_wand_31 _ _ _ _ _ _ _ _ _ = _
    unfold bX12_wand_31
    dsimp only
    rw [if_pos (nlr (by omega))]
