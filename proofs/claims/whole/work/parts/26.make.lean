-- needs: 07 10 13 14 20 21 22 23 24 25
/-! ===== cells made at the end ===== -/
theorem nw_up {g : ps_G} {N : Nat} {e e' : ps_E} : ps_up (ps_nw g N e) g.1 e' = ps_nw g N e' := by
  unfold ps_up ps_nw
  congr 2
  funext j
  dsimp only
  by_cases h : j = g.1
  · rw [if_pos h, if_pos h]
  · rw [if_neg h, if_neg h, if_neg h]
theorem nw_at {g : ps_G} {N : Nat} {e : ps_E} : (ps_nw g N e).2.2 g.1 = e := if_pos rfl
theorem nw_lo {g : ps_G} {N a : Nat} {e : ps_E} (h : a < g.1) : (ps_nw g N e).2.2 a = g.2.2 a := if_neg (by omega)
theorem up_at {g : ps_G} {a : Nat} {e : ps_E} : (ps_up g a e).2.2 a = e := if_pos rfl
theorem up_ne {g : ps_G} {a b : Nat} {e : ps_E} (h : ¬ b = a) : (ps_up g a e).2.2 b = g.2.2 b := if_neg h
theorem m_sI {s : e_S} {g : ps_G} {N ci k : Nat} {fs : List Value} {v : Int32} (hg : 195 ≤ g.1) (hk : k < fs.length) : q_sI ci k (e_g s (ps_nw g N (.inr (ci, fs)))) g.1 v = some (e_g s (ps_nw g N (.inr (ci, fs.set k (.int v))))) := by
  rw [d_sI (Or.inl hg) nw_at hk, nw_up]
theorem m_sB {s : e_S} {g : ps_G} {N ci k : Nat} {fs : List Value} {v : Int32} (hg : 195 ≤ g.1) (hv : v = 0 ∨ v = 1) (hk : k < fs.length) : q_sB ci k (e_g s (ps_nw g N (.inr (ci, fs)))) g.1 v = some (e_g s (ps_nw g N (.inr (ci, fs.set k (.int v))))) := by
  rw [d_sB hv (Or.inl hg) nw_at hk, nw_up]
theorem m_sR {s : e_S} {g : ps_G} {N ci k x : Nat} {fs : List Value} (hg : 195 ≤ g.1) (hk : k < fs.length) : q_sR ci k (e_g s (ps_nw g N (.inr (ci, fs)))) g.1 (some x) = some (e_g s (ps_nw g N (.inr (ci, fs.set k (.ref x))))) := by
  rw [d_sR (Or.inl hg) nw_at hk, nw_up]; rfl
theorem m_fI {s : e_S} {g : ps_G} {N b ci k : Nat} {e : ps_E} {fs : List Value} {x : Int32} (hb : e_fr b) (hb2 : b < g.1) (hc : g.2.2 b = .inr (ci, fs)) (hk : fs[k]? = some (.int x)) : q_fI ci k (e_g s (ps_nw g N e)) b = some x := d_fI hb (by rw [nw_lo hb2]; exact hc) hk
theorem m_fR {s : e_S} {g : ps_G} {N b ci k x : Nat} {e : ps_E} {fs : List Value} (hb : e_fr b) (hb2 : b < g.1) (hc : g.2.2 b = .inr (ci, fs)) (hk : fs[k]? = some (.ref x)) : q_fR ci k (e_g s (ps_nw g N e)) b = some (some x) := d_fR hb (by rw [nw_lo hb2]; exact hc) hk
/-- the cells with a new LAYER at the end -/
def mkL (g : ps_G) (fs : List Value) : ps_G := ps_nw g 17 (.inr (4, fs))
theorem ext_mkL {g : ps_G} {fs : List Value} : Ext g (mkL g fs) := by
  refine ⟨Nat.le_succ _, ?_, Nat.le_add_right _ _, ?_, fun a ha => nw_lo ha⟩
  · show g.1 + 1 ≤ g.1 + 100; omega
  · show g.2.1 + 17 ≤ g.2.1 + 10000; omega
theorem ext_tr {g g1 g2 : ps_G} (h1 : Ext g g1) (h2 : g1.1 ≤ g2.1 ∧ g2.1 ≤ g.1 + 100 ∧ g1.2.1 ≤ g2.2.1 ∧ g2.2.1 ≤ g.2.1 + 10000 ∧ ∀ a, a < g1.1 → g2.2.2 a = g1.2.2 a) : Ext g g2 := by
  obtain ⟨a1, a2, a3, a4, a5⟩ := h1
  obtain ⟨b1, b2, b3, b4, b5⟩ := h2
  exact ⟨by omega, b2, by omega, b4, fun a ha => by rw [b5 a (by omega), a5 a ha]⟩
theorem again4 {s : e_S} {g : ps_G} {b pa ma : Nat} {i0 i1 i2 i3 i4 i5 i6 i7 i8 i9 i10 i11 i12 i13 i14 : Int32} (hg : 195 ≤ g.1) (hb : e_fr b) (hb2 : b < g.1) (h5 : i5 = 0 ∨ i5 = 1) (h6 : i6 = 0 ∨ i6 = 1) (hc : g.2.2 b = .inr (4, [.int i0, .int i1, .int i2, .int i3, .int i4, .int i5, .int i6, .int i7, .int i8, .int i9, .int i10, .int i11, .int i12, .int i13, .int i14, .ref pa, .ref ma])) : fX4_again (e_g s g) b = some (some g.1, e_g s (mkL g [.int i0, .int i1, .int i2, .int i3, .int i4, .int i5, .int i6, .int i7, .int i8, .int i9, .int i10, .int i11, .int i12, .int i13, .int i14, .ref pa, .ref ma])) := by
  have a0 : q_new 4 (e_g s g) = e_g s (ps_nw g 17 (.inr (4, [.int 0, .int 0, .int 0, .int 0, .int 0, .int 0, .int 0, .int 0, .int 0, .int 0, .int 0, .int 0, .int 0, .int 0, .int 0, .null, .null]))) := e_nw hg
  have e : (e_g s g).1 = g.1 := rfl
  have r := fun (k : Nat) (x : Int32) (e' : ps_E) (hk : [Value.int i0, .int i1, .int i2, .int i3, .int i4, .int i5, .int i6, .int i7, .int i8, .int i9, .int i10, .int i11, .int i12, .int i13, .int i14, .ref pa, .ref ma][k]? = some (.int x)) => m_fI (s := s) (N := 17) (e := e') hb hb2 hc hk
  have rr := fun (k : Nat) (x : Nat) (e' : ps_E) (hk : [Value.int i0, .int i1, .int i2, .int i3, .int i4, .int i5, .int i6, .int i7, .int i8, .int i9, .int i10, .int i11, .int i12, .int i13, .int i14, .ref pa, .ref ma][k]? = some (.ref x)) => m_fR (s := s) (N := 17) (e := e') hb hb2 hc hk
  have o1 : (1 : Int32) = 0 ∨ (1 : Int32) = 1 := Or.inr rfl
  simp (decide := true) only [fX4_again, fX4_init_, a0, e, ob_s, m_sI hg, m_sR hg, m_sB hg o1, m_sB hg h5, m_sB hg h6, List.length_cons, List.length_nil, List.set_cons_zero, List.set_cons_succ, r 0 i0 _ rfl, r 1 i1 _ rfl, r 2 i2 _ rfl, r 3 i3 _ rfl, r 4 i4 _ rfl, r 5 i5 _ rfl, r 6 i6 _ rfl, r 7 i7 _ rfl, r 8 i8 _ rfl, r 9 i9 _ rfl, r 10 i10 _ rfl, r 11 i11 _ rfl, r 12 i12 _ rfl, r 13 i13 _ rfl, r 14 i14 _ rfl, rr 15 pa _ rfl, rr 16 ma _ rfl, mkL]
