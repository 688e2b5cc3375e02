-- needs: 07 10 13 14 20 21 22 23 24 25 26 27 32 33 34 36 38 39 40 41 42 43 44 46 47 48 49 53 54 60 61 62 63
/-! ===== a new LAYER with pixels that were made (raw, png) ===== -/
theorem addPx {s : e_S} {g G : ps_G} {a w h pc n va : Nat} {N N' f : Nat → Int32} (hwh : w * h ≤ 576) (hg : 195 ≤ g.1) (hE : Ext g G) (hE2 : G.1 + 5 ≤ g.1 + 100 ∧ G.2.1 + 659 ≤ g.2.1 + 10000) (e0 : s.2.2.1 8 0 = some a) (e1 : s.1 8 2 = Int32.ofNat pc) (h2 : pc ≤ 24) (hp : ∀ i, i < pc → ∃ b N'', s.2.2.1 12 i = some b ∧ StN g b w h N'') (hs : StN g a w h N) (hl : n < 30) (hN70 : N 35070 = Int32.ofNat n) (hv : 195 ≤ va) (hv2 : va < G.1) (hvc : G.2.2 va = .inl (0, (576, .inl f))) (hN' : ∀ k, (k < 1169 * n + 17 ∨ 1169 * n + 593 ≤ k) → N' k = nlN N 0 (-1) (Int32.ofNat (cnt (chL N (-1)) 30)) n k) (hf : ∀ k, k < w * h → f k = N' (1169 * n + (17 + k))) : ∃ b g2, fX11_addPixels (e_g s G) 8 va = some (Int32.ofNat n, e_g (fgC (rmC s a b pc)) g2) ∧ Ext g g2 ∧ StN g2 b w h N' := by
  have hG : 195 ≤ G.1 := Nat.le_trans hg hE.1
  have hsG := stN_ext hE hs
  have a0 : q_new 4 (e_g s G) = e_g s (mkL G [.int 0, .int 0, .int 0, .int 0, .int 0, .int 0, .int 0, .int 0, .int 0, .int 0, .int 0, .int 0, .int 0, .int 0, .int 0, .null, .null]) := e_nw hG
  have nw : q_fR 11 0 (q_new 4 (e_g s G)) 8 = some (some a) := by rw [a0, f8_0, e0]
  have nw5 : q_fI 9 5 (q_new 4 (e_g s G)) a = some (Int32.ofNat n) := by
    rw [a0]
    have := (stW (s := s) (stN_ext (ext_mkL (fs := [.int 0, .int 0, .int 0, .int 0, .int 0, .int 0, .int 0, .int 0, .int 0, .int 0, .int 0, .int 0, .int 0, .int 0, .int 0, .null, .null])) hsG)).2.2.1
    rw [hN70] at this
    exact this
  have i4 : fX4_init (q_new 4 (e_g s G)) G.1 (Int32.ofNat n) 0 (-1) = some (e_g s (mk2 G (nlF n 0 (-1) (G.1 + 1)) (fun _ => 0))) := init4 hG
  have sR : q_sR 4 15 (e_g s (mk2 G (nlF n 0 (-1) (G.1 + 1)) (fun _ => 0))) G.1 (some va) = some (e_g s (mk2 G (nlF n 0 (-1) va) (fun _ => 0))) := by
    rw [d_sR (Or.inl hG) mk2_0 (Nat.le_of_ble_eq_true rfl)]
    exact congrArg some (congrArg (e_g s) mk2_u0)
  have hE3 : Ext G (mk2 G (nlF n 0 (-1) va) (fun _ => 0)) := ext_mk2
  have q0 : (mk2 G (nlF n 0 (-1) va) (fun _ => 0)).2.2 G.1 = .inr (4, nlF n 0 (-1) va) := mk2_0
  have m1 : (mk2 G (nlF n 0 (-1) va) (fun _ => 0)).1 = G.1 + 2 := rfl
  have m2 : (mk2 G (nlF n 0 (-1) va) (fun _ => 0)).2.1 = G.2.1 + 593 := rfl
  generalize mk2 G (nlF n 0 (-1) va) (fun _ => 0) = G2 at sR hE3 q0 m1 m2
  have hE4 : Ext g G2 := ext_tr hE ⟨hE3.1, by omega, hE3.2.2.1, by omega, hE3.2.2.2.2⟩
  obtain ⟨la, oa, sz, ly, od, o, hD⟩ := stN_d (stN_ext hE4 hs)
  have am := among9 (s := s) (P := -1) hD
  have ob := hD.ob (s := s)
  have e : ∀ j, j < 17 → lR N' n j = nlR 0 (-1) (Int32.ofNat (cnt (chL N (-1)) 30)) j := fun j hj => by
    show N' (1169 * n + j) = _
    rw [hN' _ (by omega), nlN_l (by omega)]
  have ly : LyN G2 G.1 w h n (lR N' n) := by
    refine ⟨Or.inl hG, by omega, 0, 0, 0, 0, 0, 0, va, 0, ?_, ?_⟩
    · rw [e 1 (by omega), e 2 (by omega), e 4 (by omega), e 5 (by omega), e 6 (by omega), e 7 (by omega), e 8 (by omega), e 9 (by omega)]
      exact q0
    · rw [e 1 (by omega), e 4 (by omega), e 5 (by omega), e 6 (by omega), e 7 (by omega), e 8 (by omega), e 9 (by omega), e 10 (by omega), e 11 (by omega), e 12 (by omega), e 13 (by omega), e 14 (by omega), e 15 (by omega), e 16 (by omega)]
      refine ⟨rfl, rfl, rfl, rfl, rfl, rfl, rfl, ?_, ?_, fun y => absurd y (show ¬ (0 : Int32) = 4 by decide), fun y => absurd y (show ¬ (0 : Int32) = 5 by decide), fun _ => ⟨Or.inl hv, (show 8 ≤ va by omega), (show va < G2.1 by omega), f, by rw [hE3.2.2.2.2 va hv2]; exact hvc, fun k hk => hf k hk⟩, ⟨fun y => absurd rfl y, (show 8 ≤ G.1 by omega)⟩, Or.inl ⟨rfl, rfl⟩⟩
      · rw [if_pos (show nlR 0 (-1) (Int32.ofNat (cnt (chL N (-1)) 30)) 1 < 2 from (by decide : (0 : Int32) < 2))]; exact ⟨rfl, rfl⟩
      · rw [if_neg (show ¬ nlR 0 (-1) (Int32.ofNat (cnt (chL N (-1)) 30)) 1 = 3 from (by decide : ¬ (0 : Int32) = 3))]; exact ⟨rfl, rfl, rfl, rfl⟩
  have z0 : N' (1169 * n) = 1 := by
    have := e 0 (by omega)
    exact this
  obtain ⟨g2, w1, w2, w3⟩ := addL11 (s := s) (N' := N') (P := -1) (k := cnt (chL N (-1)) 30) hwh hg hE4 ⟨by omega, by omega⟩ e0 e1 h2 hp hs hl hN70 (Nat.le_refl _) (by unfold isP; rw [decide_eq_true rfl]; rfl) ly z0 (e 2 (by omega)) (e 3 (by omega)) (fun m j hm hne hj h3 => by
    rw [hN' _ (by omega)]; exact nlN_m hm hne hj h3) (fun i hi hne h1 => by
    rw [hN' _ (by omega), nlN_3 hi hne]
    by_cases z : N (1169 * i + 2) = -1 ∧ ¬ N (1169 * i + 3) < Int32.ofNat (cnt (chL N (-1)) 30)
    · rw [if_pos z, if_pos ⟨h1, z⟩]
    · rw [if_neg z, if_neg (fun y => z y.2)]) (by rw [hN' _ (by omega), nlN_70 (by omega), hN70, n_suc])
  refine ⟨G2.1, g2, ?_, w2, w3⟩
  have e1' : (e_g s G).1 = G.1 := rfl
  have amm : fX9_among (e_g s G2) a (-1) = some (Int32.ofNat (cnt (chL N (-1)) 30)) := am
  unfold fX11_addPixels
  rw [nw, ob_n, ob_n, nw5, ob_n, e1', i4, ob_n, sR, ob_n, f8_0, e0, ob_n, ob_n, ob, ob_n, amm, ob_n, ob8, ob_n, w1, b2_n]
/-- INPUT is taken, in both -/
def tkC (s : e_S) : e_S := sF (sF (sF s 8 14 0) 8 15 0) 8 16 0
theorem takeInput11 {s : e_S} {g : ps_G} : fX11_takeInput (e_g s g) 8 = some (s.1 8 14, e_g (tkC s) g) := by
  unfold fX11_takeInput tkC
  rw [f8_14, ob_n, w8_14, ob_n, w8_15, ob_n, w8_16, ob_n]
def tkM (s : e_S) : e_S := sF (sF (sF (sF s 139 3 (s.1 139 2)) 139 2 0) 139 4 0) 139 5 0
theorem takeInput12 {s : e_S} {g : ps_G} : fX12_takeInput (e_g s g) 139 = some (e_g (tkM s) g) := by
  unfold fX12_takeInput tkM
  rw [f139_2, ob_n, w139_3, ob_n, w139_2, ob_n, w139_4, ob_n, w139_5, ob_n]
