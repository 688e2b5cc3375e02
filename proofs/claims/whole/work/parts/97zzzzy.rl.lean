-- needs: 97zzzzx
/-! ===== the relation after both constructors (written by tools/ctr3.py) ===== -/
theorem vz_8_14 {L : Nat} {xs : Nat → Int32} : (sG (Gz L xs)).1 8 14 = 0 := (congrArg (fun e => rdF e 14) (gz_8 (L := L) (xs := xs))).trans (by decide +kernel)
theorem vz_139_2 {L : Nat} {xs : Nat → Int32} : (sG (Gz L xs)).1 139 2 = 0 := (congrArg (fun e => rdF e 2) (gz_139 (L := L) (xs := xs))).trans (by decide +kernel)
theorem vz_8_15 {L : Nat} {xs : Nat → Int32} : (sG (Gz L xs)).1 8 15 = 0 := (congrArg (fun e => rdF e 15) (gz_8 (L := L) (xs := xs))).trans (by decide +kernel)
theorem vz_139_4 {L : Nat} {xs : Nat → Int32} : (sG (Gz L xs)).1 139 4 = 0 := (congrArg (fun e => rdF e 4) (gz_139 (L := L) (xs := xs))).trans (by decide +kernel)
theorem vz_8_16 {L : Nat} {xs : Nat → Int32} : (sG (Gz L xs)).1 8 16 = 0 := (congrArg (fun e => rdF e 16) (gz_8 (L := L) (xs := xs))).trans (by decide +kernel)
theorem vz_139_5 {L : Nat} {xs : Nat → Int32} : (sG (Gz L xs)).1 139 5 = 0 := (congrArg (fun e => rdF e 5) (gz_139 (L := L) (xs := xs))).trans (by decide +kernel)
theorem vz_14_4 {L : Nat} {xs : Nat → Int32} : (sG (Gz L xs)).1 14 4 = 1 := (congrArg (fun e => rdF e 4) (gz_14 (L := L) (xs := xs))).trans (by decide +kernel)
theorem vz_139_25 {L : Nat} {xs : Nat → Int32} : (sG (Gz L xs)).1 139 25 = 1 := (congrArg (fun e => rdF e 25) (gz_139 (L := L) (xs := xs))).trans (by decide +kernel)
theorem vz_14_5 {L : Nat} {xs : Nat → Int32} : (sG (Gz L xs)).1 14 5 = 0 := (congrArg (fun e => rdF e 5) (gz_14 (L := L) (xs := xs))).trans (by decide +kernel)
theorem vz_139_26 {L : Nat} {xs : Nat → Int32} : (sG (Gz L xs)).1 139 26 = 0 := (congrArg (fun e => rdF e 26) (gz_139 (L := L) (xs := xs))).trans (by decide +kernel)
theorem vz_139_13 {L : Nat} {xs : Nat → Int32} : (sG (Gz L xs)).1 139 13 = 8 := (congrArg (fun e => rdF e 13) (gz_139 (L := L) (xs := xs))).trans (by decide +kernel)
theorem vz_139_14 {L : Nat} {xs : Nat → Int32} : (sG (Gz L xs)).1 139 14 = 8 := (congrArg (fun e => rdF e 14) (gz_139 (L := L) (xs := xs))).trans (by decide +kernel)
theorem vz_89_0 {L : Nat} {xs : Nat → Int32} : (sG (Gz L xs)).1 89 0 = 8 := (congrArg (fun e => rdF e 0) (gz_89 (L := L) (xs := xs))).trans (by decide +kernel)
theorem vz_89_1 {L : Nat} {xs : Nat → Int32} : (sG (Gz L xs)).1 89 1 = 8 := (congrArg (fun e => rdF e 1) (gz_89 (L := L) (xs := xs))).trans (by decide +kernel)
theorem vz_20_8 {L : Nat} {xs : Nat → Int32} : (sG (Gz L xs)).1 20 8 = 0 := (congrArg (fun e => rdF e 8) (gz_20 (L := L) (xs := xs))).trans (by decide +kernel)
theorem vz_139_23 {L : Nat} {xs : Nat → Int32} : (sG (Gz L xs)).1 139 23 = 0 := (congrArg (fun e => rdF e 23) (gz_139 (L := L) (xs := xs))).trans (by decide +kernel)
theorem vz_20_5 {L : Nat} {xs : Nat → Int32} : (sG (Gz L xs)).1 20 5 = 0 := (congrArg (fun e => rdF e 5) (gz_20 (L := L) (xs := xs))).trans (by decide +kernel)
theorem vz_122_1 {L : Nat} {xs : Nat → Int32} : (sG (Gz L xs)).1 122 1 = 0 := (congrArg (fun e => rdF e 1) (gz_122 (L := L) (xs := xs))).trans (by decide +kernel)
theorem vz_139_7 {L : Nat} {xs : Nat → Int32} : (sG (Gz L xs)).1 139 7 = 0 := (congrArg (fun e => rdF e 7) (gz_139 (L := L) (xs := xs))).trans (by decide +kernel)
theorem vz_8_2 {L : Nat} {xs : Nat → Int32} : (sG (Gz L xs)).1 8 2 = 0 := (congrArg (fun e => rdF e 2) (gz_8 (L := L) (xs := xs))).trans (by decide +kernel)
theorem vz_8_4 {L : Nat} {xs : Nat → Int32} : (sG (Gz L xs)).1 8 4 = 0 := (congrArg (fun e => rdF e 4) (gz_8 (L := L) (xs := xs))).trans (by decide +kernel)
theorem vz_139_10 {L : Nat} {xs : Nat → Int32} : (sG (Gz L xs)).1 139 10 = 0 := (congrArg (fun e => rdF e 10) (gz_139 (L := L) (xs := xs))).trans (by decide +kernel)
theorem vz_139_11 {L : Nat} {xs : Nat → Int32} : (sG (Gz L xs)).1 139 11 = 0 := (congrArg (fun e => rdF e 11) (gz_139 (L := L) (xs := xs))).trans (by decide +kernel)
theorem vz_139_12 {L : Nat} {xs : Nat → Int32} : (sG (Gz L xs)).1 139 12 = 1 := (congrArg (fun e => rdF e 12) (gz_139 (L := L) (xs := xs))).trans (by decide +kernel)
theorem vz_93_8 {L : Nat} {xs : Nat → Int32} : (sG (Gz L xs)).1 93 8 = 0 := (congrArg (fun e => rdF e 8) (gz_93 (L := L) (xs := xs))).trans (by decide +kernel)
theorem vz_139_43 {L : Nat} {xs : Nat → Int32} : (sG (Gz L xs)).1 139 43 = 0 := (congrArg (fun e => rdF e 43) (gz_139 (L := L) (xs := xs))).trans (by decide +kernel)
theorem vz_93_0 {L : Nat} {xs : Nat → Int32} : (sG (Gz L xs)).1 93 0 = (-16777216) := (congrArg (fun e => rdF e 0) (gz_93 (L := L) (xs := xs))).trans (by decide +kernel)
theorem vz_139_34 {L : Nat} {xs : Nat → Int32} : (sG (Gz L xs)).1 139 34 = (-16777216) := (congrArg (fun e => rdF e 34) (gz_139 (L := L) (xs := xs))).trans (by decide +kernel)
theorem vz_93_1 {L : Nat} {xs : Nat → Int32} : (sG (Gz L xs)).1 93 1 = 8 := (congrArg (fun e => rdF e 1) (gz_93 (L := L) (xs := xs))).trans (by decide +kernel)
theorem vz_139_36 {L : Nat} {xs : Nat → Int32} : (sG (Gz L xs)).1 139 36 = 8 := (congrArg (fun e => rdF e 36) (gz_139 (L := L) (xs := xs))).trans (by decide +kernel)
theorem vz_93_2 {L : Nat} {xs : Nat → Int32} : (sG (Gz L xs)).1 93 2 = 255 := (congrArg (fun e => rdF e 2) (gz_93 (L := L) (xs := xs))).trans (by decide +kernel)
theorem vz_139_37 {L : Nat} {xs : Nat → Int32} : (sG (Gz L xs)).1 139 37 = 255 := (congrArg (fun e => rdF e 37) (gz_139 (L := L) (xs := xs))).trans (by decide +kernel)
theorem vz_93_3 {L : Nat} {xs : Nat → Int32} : (sG (Gz L xs)).1 93 3 = 4 := (congrArg (fun e => rdF e 3) (gz_93 (L := L) (xs := xs))).trans (by decide +kernel)
theorem vz_139_38 {L : Nat} {xs : Nat → Int32} : (sG (Gz L xs)).1 139 38 = 4 := (congrArg (fun e => rdF e 38) (gz_139 (L := L) (xs := xs))).trans (by decide +kernel)
theorem vz_93_4 {L : Nat} {xs : Nat → Int32} : (sG (Gz L xs)).1 93 4 = 255 := (congrArg (fun e => rdF e 4) (gz_93 (L := L) (xs := xs))).trans (by decide +kernel)
theorem vz_139_39 {L : Nat} {xs : Nat → Int32} : (sG (Gz L xs)).1 139 39 = 255 := (congrArg (fun e => rdF e 39) (gz_139 (L := L) (xs := xs))).trans (by decide +kernel)
theorem vz_93_5 {L : Nat} {xs : Nat → Int32} : (sG (Gz L xs)).1 93 5 = 255 := (congrArg (fun e => rdF e 5) (gz_93 (L := L) (xs := xs))).trans (by decide +kernel)
theorem vz_139_40 {L : Nat} {xs : Nat → Int32} : (sG (Gz L xs)).1 139 40 = 255 := (congrArg (fun e => rdF e 40) (gz_139 (L := L) (xs := xs))).trans (by decide +kernel)
theorem vz_93_6 {L : Nat} {xs : Nat → Int32} : (sG (Gz L xs)).1 93 6 = 0 := (congrArg (fun e => rdF e 6) (gz_93 (L := L) (xs := xs))).trans (by decide +kernel)
theorem vz_139_41 {L : Nat} {xs : Nat → Int32} : (sG (Gz L xs)).1 139 41 = 0 := (congrArg (fun e => rdF e 41) (gz_139 (L := L) (xs := xs))).trans (by decide +kernel)
theorem vz_93_7 {L : Nat} {xs : Nat → Int32} : (sG (Gz L xs)).1 93 7 = 0 := (congrArg (fun e => rdF e 7) (gz_93 (L := L) (xs := xs))).trans (by decide +kernel)
theorem vz_139_42 {L : Nat} {xs : Nat → Int32} : (sG (Gz L xs)).1 139 42 = 0 := (congrArg (fun e => rdF e 42) (gz_139 (L := L) (xs := xs))).trans (by decide +kernel)
theorem wz_8_0 {L : Nat} {xs : Nat → Int32} : (sG (Gz L xs)).2.2.1 8 0 = some 9 := (congrArg (fun e => rdR e 0) (gz_8 (L := L) (xs := xs))).trans (by decide +kernel)
theorem rz_18 {L : Nat} {xs : Nat → Int32} : (sG (Gz L xs)).2.1 18 = (upd (fun _ => 0) 4 1) := congrArg rdA (gz_18 (L := L) (xs := xs))
theorem rz_150 {L : Nat} {xs : Nat → Int32} : (sG (Gz L xs)).2.1 150 = (upd (fun _ => 0) 4 1) := congrArg rdA (gz_150 (L := L) (xs := xs))
theorem rz_17 {L : Nat} {xs : Nat → Int32} : (sG (Gz L xs)).2.1 17 = fun _ => 0 := congrArg rdA (gz_17 (L := L) (xs := xs))
theorem rz_152 {L : Nat} {xs : Nat → Int32} : (sG (Gz L xs)).2.1 152 = fun _ => 0 := congrArg rdA (gz_152 (L := L) (xs := xs))
theorem rz_112 {L : Nat} {xs : Nat → Int32} : (sG (Gz L xs)).2.1 112 = (q3 (q3 (q3 (q3 (fun _ => 0) 0) 10) 20) 30) := congrArg rdA (gz_112 (L := L) (xs := xs))
theorem rz_173 {L : Nat} {xs : Nat → Int32} : (sG (Gz L xs)).2.1 173 = (q3 (q3 (q3 (q3 (fun _ => 0) 0) 10) 20) 30) := congrArg rdA (gz_173 (L := L) (xs := xs))
theorem rz_113 {L : Nat} {xs : Nat → Int32} : (sG (Gz L xs)).2.1 113 = (upd (upd (upd (upd (fun _ => 0) 0 0) 1 64) 2 64) 3 64) := congrArg rdA (gz_113 (L := L) (xs := xs))
theorem rz_180 {L : Nat} {xs : Nat → Int32} : (sG (Gz L xs)).2.1 180 = (upd (upd (upd (fun _ => 0) 1 64) 2 64) 3 64) := congrArg rdA (gz_180 (L := L) (xs := xs))
theorem rz_99 {L : Nat} {xs : Nat → Int32} : (sG (Gz L xs)).2.1 99 = fun _ => 0 := congrArg rdA (gz_99 (L := L) (xs := xs))
theorem rz_163 {L : Nat} {xs : Nat → Int32} : (sG (Gz L xs)).2.1 163 = fun _ => 0 := congrArg rdA (gz_163 (L := L) (xs := xs))
theorem rz_103 {L : Nat} {xs : Nat → Int32} : (sG (Gz L xs)).2.1 103 = (cpT (fun _ => 0) (fun _ => -1) 0 256) := congrArg rdA (gz_103 (L := L) (xs := xs))
theorem rz_171 {L : Nat} {xs : Nat → Int32} : (sG (Gz L xs)).2.1 171 = (cpT (fun _ => 0) (fun _ => -1) 0 256) := congrArg rdA (gz_171 (L := L) (xs := xs))
theorem rz_104 {L : Nat} {xs : Nat → Int32} : (sG (Gz L xs)).2.1 104 = fun _ => 0 := congrArg rdA (gz_104 (L := L) (xs := xs))
theorem rz_172 {L : Nat} {xs : Nat → Int32} : (sG (Gz L xs)).2.1 172 = fun _ => 0 := congrArg rdA (gz_172 (L := L) (xs := xs))
theorem rz_90 {L : Nat} {xs : Nat → Int32} : (sG (Gz L xs)).2.1 90 = (cpT (fun _ => 0) (fun _ => 255) 0 576) := congrArg rdA (gz_90 (L := L) (xs := xs))
theorem rz_155 {L : Nat} {xs : Nat → Int32} : (sG (Gz L xs)).2.1 155 = (cpT (fun _ => 0) (fun _ => 255) 0 576) := congrArg rdA (gz_155 (L := L) (xs := xs))
theorem rz_148 {L : Nat} {xs : Nat → Int32} : (sG (Gz L xs)).2.1 148 = (cpT (fun _ => 0) (fun _ => 0) 0 9) := congrArg rdA (gz_148 (L := L) (xs := xs))
theorem rz_88 {L : Nat} {xs : Nat → Int32} : (sG (Gz L xs)).2.1 88 = fun _ => 0 := congrArg rdA (gz_88 (L := L) (xs := xs))
theorem rz_142 {L : Nat} {xs : Nat → Int32} : (sG (Gz L xs)).2.1 142 = (cpT (fun _ => 0) (fun _ => 0) 0 35071) := congrArg rdA (gz_142 (L := L) (xs := xs))
theorem rz_143 {L : Nat} {xs : Nat → Int32} : (sG (Gz L xs)).2.1 143 = (cpT (fun _ => 0) (cpT (fun _ => 0) (fun _ => 0) 0 35071) 0 35071) := congrArg rdA (gz_143 (L := L) (xs := xs))
theorem rz_182 {L : Nat} {xs : Nat → Int32} : (sG (Gz L xs)).2.1 182 = (upd (upd (upd (upd (upd (upd (upd (upd (upd (upd (upd (upd (upd (upd (upd (upd (upd (upd (upd (upd (upd (upd (upd (upd (upd (upd (upd (upd (upd (fun _ => 0) 0 3) 1 4) 2 5) 3 6) 4 7) 5 8) 6 9) 7 10) 8 11) 9 13) 10 15) 11 17) 12 19) 13 23) 14 27) 15 31) 16 35) 17 43) 18 51) 19 59) 20 67) 21 83) 22 99) 23 115) 24 131) 25 163) 26 195) 27 227) 28 258) := congrArg rdA (gz_182 (L := L) (xs := xs))
theorem rz_183 {L : Nat} {xs : Nat → Int32} : (sG (Gz L xs)).2.1 183 = (upd (upd (upd (upd (upd (upd (upd (upd (upd (upd (upd (upd (upd (upd (upd (upd (upd (upd (upd (upd (upd (upd (upd (upd (upd (upd (upd (upd (upd (fun _ => 0) 0 0) 1 0) 2 0) 3 0) 4 0) 5 0) 6 0) 7 0) 8 1) 9 1) 10 1) 11 1) 12 2) 13 2) 14 2) 15 2) 16 3) 17 3) 18 3) 19 3) 20 4) 21 4) 22 4) 23 4) 24 5) 25 5) 26 5) 27 5) 28 0) := congrArg rdA (gz_183 (L := L) (xs := xs))
theorem rz_184 {L : Nat} {xs : Nat → Int32} : (sG (Gz L xs)).2.1 184 = (upd (upd (upd (upd (upd (upd (upd (upd (upd (upd (upd (upd (upd (upd (upd (upd (upd (upd (upd (upd (upd (upd (upd (upd (upd (upd (upd (upd (upd (upd (fun _ => 0) 0 1) 1 2) 2 3) 3 4) 4 5) 5 7) 6 9) 7 13) 8 17) 9 25) 10 33) 11 49) 12 65) 13 97) 14 129) 15 193) 16 257) 17 385) 18 513) 19 769) 20 1025) 21 1537) 22 2049) 23 3073) 24 4097) 25 6145) 26 8193) 27 12289) 28 16385) 29 24577) := congrArg rdA (gz_184 (L := L) (xs := xs))
theorem rz_185 {L : Nat} {xs : Nat → Int32} : (sG (Gz L xs)).2.1 185 = (upd (upd (upd (upd (upd (upd (upd (upd (upd (upd (upd (upd (upd (upd (upd (upd (upd (upd (upd (upd (upd (upd (upd (upd (upd (upd (upd (upd (upd (upd (fun _ => 0) 0 0) 1 0) 2 0) 3 0) 4 1) 5 1) 6 2) 7 2) 8 3) 9 3) 10 4) 11 4) 12 5) 13 5) 14 6) 15 6) 16 7) 17 7) 18 8) 19 8) 20 9) 21 9) 22 10) 23 10) 24 11) 25 11) 26 12) 27 12) 28 13) 29 13) := congrArg rdA (gz_185 (L := L) (xs := xs))
theorem rz_186 {L : Nat} {xs : Nat → Int32} : (sG (Gz L xs)).2.1 186 = (upd (upd (upd (upd (upd (upd (upd (upd (upd (upd (upd (upd (upd (upd (upd (upd (upd (upd (upd (fun _ => 0) 0 16) 1 17) 2 18) 3 0) 4 8) 5 7) 6 9) 7 6) 8 10) 9 5) 10 11) 11 4) 12 12) 13 3) 14 13) 15 2) 16 14) 17 1) 18 15) := congrArg rdA (gz_186 (L := L) (xs := xs))
theorem cp0 {b n k : Nat} : cpT (fun _ => 0) (fun _ => 0) b n k = 0 := by
  unfold cpT
  split <;> rfl
theorem cp1 {n k : Nat} {v : Int32} (h : k < n) : cpT (fun _ => 0) (fun _ => v) 0 n k = v := cpT_ge (Nat.zero_le _) (by omega)
theorem cp2 {m n k : Nat} : cpT (fun _ => 0) (cpT (fun _ => 0) (fun _ => 0) 0 m) 0 n k = 0 := by
  unfold cpT
  split
  · split <;> rfl
  · rfl
theorem n142 {L k : Nat} {xs : Nat → Int32} : (sG (Gz L xs)).2.1 142 k = 0 := by
  rw [rz_142]
  exact cp0
theorem n143 {L k : Nat} {xs : Nat → Int32} : (sG (Gz L xs)).2.1 143 k = 0 := by
  rw [rz_143]
  exact cp2
theorem n148 {L k : Nat} {xs : Nat → Int32} : (sG (Gz L xs)).2.1 148 k = 0 := by
  rw [rz_148]
  exact cp0
theorem n88 {L k : Nat} {xs : Nat → Int32} : (sG (Gz L xs)).2.1 88 k = 0 := by
  rw [rz_88]
theorem n01 : ¬ (0 : Int32) = 1 := by decide
theorem z_G1 {L : Nat} {xs : Nat → Int32} : G1 (sG (Gz L xs)) := ⟨0, by decide, vz_8_14, vz_139_2, fun k hk => absurd hk (Nat.not_lt_zero k), vz_8_15.trans vz_139_4.symm, vz_8_16.trans vz_139_5.symm⟩
theorem z_G2 {L : Nat} {xs : Nat → Int32} : G2 (sG (Gz L xs)) := ⟨vz_93_0.trans vz_139_34.symm, vz_93_1.trans vz_139_36.symm, vz_93_2.trans vz_139_37.symm, vz_93_3.trans vz_139_38.symm, vz_93_4.trans vz_139_39.symm, vz_93_5.trans vz_139_40.symm, vz_93_6.trans vz_139_41.symm, vz_93_7.trans vz_139_42.symm, (by rw [vz_139_36]; decide), (by rw [vz_139_37]; decide), (by rw [vz_139_38]; decide), (by rw [vz_139_39]; decide), (by rw [vz_139_40]; decide), (by rw [vz_139_41]; decide), (by rw [vz_139_42]; decide), 0, by decide, vz_93_8, vz_139_43, fun k hk => absurd hk (Nat.not_lt_zero k)⟩
theorem z_k9 : ∀ k, k < 9 → rg (upd (fun _ => 0) 4 1 k) (-100) 100 = true := by decide
theorem z_G3 {L : Nat} {xs : Nat → Int32} : G3 (sG (Gz L xs)) := by
  refine ⟨?_, vz_14_4.trans vz_139_25.symm, (by rw [vz_139_25]; decide), vz_14_5.trans vz_139_26.symm, (by rw [vz_139_26]; decide)⟩
  rw [rz_18, rz_150]
  exact fun k hk => ⟨rfl, z_k9 k hk⟩
theorem z_G4 {L : Nat} {xs : Nat → Int32} : G4 (sG (Gz L xs)) := by
  intro c hc
  rw [rz_17, rz_152]
  exact ⟨rfl, 0, by decide, rfl, fun k hk => absurd hk (Nat.not_lt_zero k)⟩
theorem z_k40 : ∀ k, k < 40 → (if k % 10 = 9 then rg (q3 (q3 (q3 (q3 (fun _ => 0) 0) 10) 20) 30 k) 0 2 else rg (q3 (q3 (q3 (q3 (fun _ => 0) 0) 10) 20) 30 k) (-4096) 4096) = true := by decide +kernel
theorem z_k4 : ∀ k, k < 4 → upd (upd (upd (upd (fun _ => 0) 0 0) 1 64) 2 64) 3 64 k = upd (upd (upd (fun _ => (0 : Int32)) 1 64) 2 64) 3 64 k ∧ (if k = 0 then rg (upd (upd (upd (fun _ => 0) 1 64) 2 64) 3 64 k) 0 4095 else rg (upd (upd (upd (fun _ => 0) 1 64) 2 64) 3 64 k) 0 1024) = true := by decide +kernel
theorem z_G5 {L : Nat} {xs : Nat → Int32} : G5 (sG (Gz L xs)) := by
  unfold G5
  rw [rz_112, rz_173, rz_113, rz_180]
  exact ⟨fun k hk => ⟨rfl, z_k40 k hk⟩, z_k4⟩
theorem z_G6 {L : Nat} {xs : Nat → Int32} : G6 (sG (Gz L xs)) := by
  constructor
  · intro p hp
    rw [rz_99, rz_163]
    exact ⟨rfl, 0, by decide, rfl, fun k hk => absurd hk (Nat.not_lt_zero k)⟩
  · intro b hb
    rw [rz_103, rz_171, rz_104, rz_172, cp1 hb]
    exact ⟨rfl, rfl, by decide, show rg 0 0 800 = true by decide⟩
theorem z_G7 {L : Nat} {xs : Nat → Int32} : G7 (sG (Gz L xs)) 8 8 := by
  refine ⟨by decide, by decide, by decide, by decide, vz_139_13, vz_139_14, vz_89_0, vz_89_1, fun k hk => ?_⟩
  rw [rz_90, rz_155, cp1 hk]
  exact ⟨rfl, by decide⟩
theorem z_G8 {L : Nat} {xs : Nat → Int32} : G8 (sG (Gz L xs)) 8 8 := by
  refine ⟨vz_20_8.trans vz_139_23.symm, fun t _ => ⟨Or.inl n148, Or.inl n88⟩, fun x y _ _ => ?_, fun t _ _ => n148, fun x y _ _ h => ?_, Or.inl vz_20_5, fun h => ?_⟩
  · rw [n88, n148]
    split <;> rfl
  · rw [n88] at h
    exact absurd h n01
  · rw [vz_20_5] at h
    exact absurd h n01
theorem z_G9 {L : Nat} {xs : Nat → Int32} : G9 (sG (Gz L xs)) := ⟨0, by decide, vz_122_1, vz_139_7, fun k hk => absurd hk (Nat.not_lt_zero k)⟩
theorem z_Tr {L : Nat} {xs : Nat → Int32} : TrN ((sG (Gz L xs)).2.1 142) := by
  have no : ∀ {k : Nat}, ¬ (sG (Gz L xs)).2.1 142 k = 1 := fun {k} h => by
    rw [n142] at h
    exact n01 h
  exact ⟨⟨0, by decide, n142, fun l _ _ => n142⟩, fun l _ => Or.inl n142, fun l _ h => absurd h no, ⟨fun _ => 0, fun l _ h => absurd h no⟩, fun l _ h => absurd h no⟩
theorem gz_1 {L : Nat} {xs : Nat → Int32} : (Gz L xs).1 = 195 := by
  show 8 + 1 + AZ.length = 195
  have e : AZ.length = 186 := (List.length_append).trans (by rw [az_l]; rfl)
  rw [e]
theorem z_St {L : Nat} {xs : Nat → Int32} : StN (Gz L xs) 9 8 8 ((sG (Gz L xs)).2.1 142) := by
  have no : ∀ {k : Nat}, ¬ (sG (Gz L xs)).2.1 142 k = 1 := fun {k} h => by
    rw [n142] at h
    exact n01 h
  refine ⟨z_Tr, by unfold e_fr; decide, by rw [gz_1]; decide, 10, 11, 0, fun _ => none, fun _ => 0, by unfold e_fr; decide, by decide, by rw [gz_1]; decide, by unfold e_fr; decide, by decide, by rw [gz_1]; decide, ?_, gz_10, gz_11, ⟨by decide, fun i => i, fun i hi => absurd hi (Nat.not_lt_zero i), fun i j _ hj => absurd hj (Nat.not_lt_zero j), fun l _ h => absurd h no, fun i j _ hj => absurd hj (Nat.not_lt_zero j)⟩, fun l hl => ?_⟩
  · rw [gz_9, n142]
    rfl
  · rw [if_neg no]
theorem z_G10 {L : Nat} {xs : Nat → Int32} : G10 (sG (Gz L xs)) (Gz L xs) 8 8 := by
  refine ⟨9, 0, 0, 0, by decide, by decide, wz_8_0, vz_8_2, vz_8_4, vz_139_10, vz_139_11, vz_139_12, z_St, fun k _ => ?_, fun i hi => absurd hi (Nat.not_lt_zero i), fun i hi => absurd hi (Nat.not_lt_zero i)⟩
  rw [n142, n143]
theorem z_t182 : ∀ i, i < 29 → (upd (upd (upd (upd (upd (upd (upd (upd (upd (upd (upd (upd (upd (upd (upd (upd (upd (upd (upd (upd (upd (upd (upd (upd (upd (upd (upd (upd (upd (fun _ => 0) 0 3) 1 4) 2 5) 3 6) 4 7) 5 8) 6 9) 7 10) 8 11) 9 13) 10 15) 11 17) 12 19) 13 23) 14 27) 15 31) 16 35) 17 43) 18 51) 19 59) 20 67) 21 83) 22 99) 23 115) 24 131) 25 163) 26 195) 27 227) 28 258) i = (ps_sv 2).getD i 0 := by decide +kernel
theorem z_t183 : ∀ i, i < 29 → (upd (upd (upd (upd (upd (upd (upd (upd (upd (upd (upd (upd (upd (upd (upd (upd (upd (upd (upd (upd (upd (upd (upd (upd (upd (upd (upd (upd (upd (fun _ => 0) 0 0) 1 0) 2 0) 3 0) 4 0) 5 0) 6 0) 7 0) 8 1) 9 1) 10 1) 11 1) 12 2) 13 2) 14 2) 15 2) 16 3) 17 3) 18 3) 19 3) 20 4) 21 4) 22 4) 23 4) 24 5) 25 5) 26 5) 27 5) 28 0) i = (ps_sv 3).getD i 0 := by decide +kernel
theorem z_t184 : ∀ i, i < 30 → (upd (upd (upd (upd (upd (upd (upd (upd (upd (upd (upd (upd (upd (upd (upd (upd (upd (upd (upd (upd (upd (upd (upd (upd (upd (upd (upd (upd (upd (upd (fun _ => 0) 0 1) 1 2) 2 3) 3 4) 4 5) 5 7) 6 9) 7 13) 8 17) 9 25) 10 33) 11 49) 12 65) 13 97) 14 129) 15 193) 16 257) 17 385) 18 513) 19 769) 20 1025) 21 1537) 22 2049) 23 3073) 24 4097) 25 6145) 26 8193) 27 12289) 28 16385) 29 24577) i = (ps_sv 4).getD i 0 := by decide +kernel
theorem z_t185 : ∀ i, i < 30 → (upd (upd (upd (upd (upd (upd (upd (upd (upd (upd (upd (upd (upd (upd (upd (upd (upd (upd (upd (upd (upd (upd (upd (upd (upd (upd (upd (upd (upd (upd (fun _ => 0) 0 0) 1 0) 2 0) 3 0) 4 1) 5 1) 6 2) 7 2) 8 3) 9 3) 10 4) 11 4) 12 5) 13 5) 14 6) 15 6) 16 7) 17 7) 18 8) 19 8) 20 9) 21 9) 22 10) 23 10) 24 11) 25 11) 26 12) 27 12) 28 13) 29 13) i = (ps_sv 5).getD i 0 := by decide +kernel
theorem z_t186 : ∀ i, i < 19 → (upd (upd (upd (upd (upd (upd (upd (upd (upd (upd (upd (upd (upd (upd (upd (upd (upd (upd (upd (fun _ => 0) 0 16) 1 17) 2 18) 3 0) 4 8) 5 7) 6 9) 7 6) 8 10) 9 5) 10 11) 11 4) 12 12) 13 3) 14 13) 15 2) 16 14) 17 1) 18 15) i = (ps_sv 6).getD i 0 := by decide +kernel
theorem z_G11 {L : Nat} {xs : Nat → Int32} : G11 (sG (Gz L xs)) (Gz L xs) := by
  refine ⟨fun i hi => ?_, fun i hi => ?_, fun i hi => ?_, fun j hj => ?_, by rw [gz_1]; exact Nat.le_refl _⟩
  · rw [rz_182, rz_183]
    exact ⟨z_t182 i hi, z_t183 i hi⟩
  · rw [rz_184, rz_185]
    exact ⟨z_t184 i hi, z_t185 i hi⟩
  · rw [rz_186]
    exact z_t186 i hi
  · rw [gz_lt (by omega)]
    exact if_pos hj
theorem z_rel {L : Nat} {xs : Nat → Int32} : Rel (sG (Gz L xs)) (Gz L xs) := ⟨z_G1, z_G2, z_G3, z_G4, z_G5, z_G6, ⟨8, 8, z_G7, z_G8, z_G10⟩, z_G9, z_G11⟩
theorem z_GL {L : Nat} {xs : Nat → Int32} : GL L xs (Gz L xs) := by
  unfold GL
  rw [gz_lt (by decide)]
  rfl
theorem z_W {L : Nat} {xs : Nat → Int32} : (Gz L xs).2.1 ≤ 6000000 := by
  show 0 + VZ ≤ 6000000
  decide +kernel
/-- the law's beginning -/
theorem z_law {L : Nat} {xs : Nat → Int32} : fL_law (ps_g0 L xs) 7 = Option.bind (q_lp (fun s => bL_law_23 7 8 139 194 s.1 s.2) ((0 : Int32), Gz L xs)) fun s924 => Sum.elim (fun r925 => some ((1 : Int32), r925)) (fun v926 => some v926) s924 := by
  have a1 : fX11_init (q_new 11 (ps_g0 L xs)) (ps_g0 L xs).1 = some (oS (ps_g0 L xs) 11 (F11_13 8) (A11_13 8) V11_13) := in_11 (g := ps_g0 L xs) (Nat.le_refl 8)
  have hv : (oS (ps_g0 L xs) 11 (F11_13 8) (A11_13 8) V11_13).1 = 139 := by
    rw [oS_1, a11l_13]
    rfl
  have a2 := c12_e hv
  have h2 : (oS (oS (ps_g0 L xs) 11 (F11_13 8) (A11_13 8) V11_13) 12 FZ BZ V12_54).1 = 194 := by
    rw [oS_1, hv, b_8]
  have a3 : q_nA .long (oS (oS (ps_g0 L xs) 11 (F11_13 8) (A11_13 8) V11_13) 12 FZ BZ V12_54) (1 : Int32) = some (Gz L xs) := by
    rw [o_fl]
    exact o_nA (N := 1) (by decide) (by decide)
  unfold fL_law
  rw [a1, ob_n, a2, ob_n, a3, ob_n, hv, h2]
  rfl
theorem z_pure (L : Nat) (xs : Nat → Int32) (hL : L ≤ 448) : ∃ g', fL_law (ps_g0 L xs) 7 = some ((1 : Int32), g') ∧ g'.1 - 8 ≤ 600128 ∧ g'.2.1 ≤ 7301098 := by
  obtain ⟨g', e, b1, b2⟩ := lw_l (xs := xs) hL 64 0 (sG (Gz L xs)) (Gz L xs) z_rel z_GL (by decide) (by omega)
  rw [gz_e] at e
  have w := z_W (L := L) (xs := xs)
  refine ⟨g', ?_, ?_, ?_⟩
  · rw [z_law]
    exact (congrArg (fun z => Option.bind z fun s924 => Sum.elim (fun r925 => some ((1 : Int32), r925)) (fun v926 => some v926) s924) e).trans (ob_n.trans rfl)
  · rw [gz_1] at b1
    omega
  · omega
