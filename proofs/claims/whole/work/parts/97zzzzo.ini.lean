-- needs: 97zzzzn
/-! ===== constructors without loops (written by tools/ctr.py) ===== -/
theorem o_gq {g : ps_G} {ci W N K : Nat} {fs : List Value} {as : List ps_E} {x y : Int32} (h : ¬ (x < 0 ∨ y < 0 ∨ 1000 < x.toNatClampNeg ∨ 100000 < y.toNatClampNeg)) (hx : x.toNatClampNeg = N) (hy : y.toNatClampNeg = K) : q_gr (oS g ci fs as W) x y = some (oS g ci fs (as ++ (.inl (5, (N, .inr (.inr (.inr (.inr fun i => if i < N then some (g.1 + 1 + as.length + 1 + i) else none))))) :: List.replicate N (.inl (0, (K, .inl fun _ => 0))))) (W + N + N * K)) := by
  unfold q_gr
  rw [if_neg h, hx, hy, o_gr]
