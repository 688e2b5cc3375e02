-- needs: 97zzzzm
/-! ===== constructors: one cell with fields, and what is made after it ===== -/
def oS (g : ps_G) (ci : Nat) (fs : List Value) (as : List ps_E) (W : Nat) : ps_G := (g.1 + 1 + as.length, g.2.1 + W, fun j => if j = g.1 then .inr (ci, fs) else if g.1 < j then (as[j - g.1 - 1]?).getD (g.2.2 j) else g.2.2 j)
theorem oS_1 {g : ps_G} {ci W : Nat} {fs : List Value} {as : List ps_E} : (oS g ci fs as W).1 = g.1 + 1 + as.length := rfl
theorem o_new {g : ps_G} {ci : Nat} : q_new ci g = oS g ci (ps_df ci) [] (ps_cN ci) := by
  unfold q_new ps_nw oS
  refine Prod.ext rfl (Prod.ext rfl ?_)
  funext j
  show (if j = g.1 then _ else g.2.2 j) = (if j = g.1 then _ else if g.1 < j then g.2.2 j else g.2.2 j)
  by_cases q : j = g.1
  · rw [if_pos q, if_pos q]
  · rw [if_neg q, if_neg q]
    by_cases z : g.1 < j
    · rw [if_pos z]
    · rw [if_neg z]
theorem o_nw {g : ps_G} {ci W N : Nat} {fs : List Value} {as : List ps_E} {e : ps_E} : ps_nw (oS g ci fs as W) N e = oS g ci fs (as ++ [e]) (W + N) := by
  unfold ps_nw oS
  refine Prod.ext ?_ (Prod.ext ?_ ?_)
  · show g.1 + 1 + as.length + 1 = g.1 + 1 + (as ++ [e]).length
    rw [List.length_append]
    show _ = g.1 + 1 + (as.length + 1)
    omega
  · show g.2.1 + W + N = g.2.1 + (W + N)
    omega
  · funext j
    show (if j = g.1 + 1 + as.length then e else if j = g.1 then _ else if g.1 < j then (as[j - g.1 - 1]?).getD (g.2.2 j) else g.2.2 j) = (if j = g.1 then _ else if g.1 < j then ((as ++ [e])[j - g.1 - 1]?).getD (g.2.2 j) else g.2.2 j)
    by_cases q : j = g.1 + 1 + as.length
    · have n1 : ¬ j = g.1 := by omega
      have n2 : g.1 < j := by omega
      have n3 : j - g.1 - 1 = as.length := by omega
      rw [if_pos q, if_neg n1, if_pos n2, n3, List.getElem?_concat_length]
      rfl
    · rw [if_neg q]
      by_cases z : j = g.1
      · rw [if_pos z, if_pos z]
      · rw [if_neg z, if_neg z]
        by_cases y : g.1 < j
        · rw [if_pos y, if_pos y]
          by_cases x : j - g.1 - 1 < as.length
          · rw [List.getElem?_append_left x]
          · have b1 : as.length ≤ j - g.1 - 1 := by omega
            have b2 : (as ++ [e]).length ≤ j - g.1 - 1 := by
              rw [List.length_append]
              show as.length + 1 ≤ _
              omega
            rw [List.getElem?_eq_none b1, List.getElem?_eq_none b2]
        · rw [if_neg y, if_neg y]
theorem o_nA {t : ArrayType} {g : ps_G} {ci W : Nat} {fs : List Value} {as : List ps_E} {n : Int32} {N : Nat} (h : ¬ (n < 0 ∨ 1000000 < n.toNatClampNeg)) (hN : n.toNatClampNeg = N) : q_nA t (oS g ci fs as W) n = some (oS g ci fs (as ++ [.inl (ps_ak t, (N, ps_az t))]) (W + N)) := by
  unfold q_nA
  rw [if_neg h, o_nw, hN]
theorem o_nR {k : Nat} {g : ps_G} {ci W : Nat} {fs : List Value} {as : List ps_E} {n : Int32} {N : Nat} (h : ¬ (n < 0 ∨ 1000000 < n.toNatClampNeg)) (hN : n.toNatClampNeg = N) : q_nR k (oS g ci fs as W) n = some (oS g ci fs (as ++ [.inl (k, (N, .inr (.inr (.inr (.inr fun _ => none)))))]) (W + N)) := by
  unfold q_nR
  rw [if_neg h, o_nw, hN]
theorem o_g {g : ps_G} {ci W : Nat} {fs : List Value} {as : List ps_E} : (oS g ci fs as W).2.2 g.1 = .inr (ci, fs) := if_pos rfl
theorem o_at {g : ps_G} {ci W i : Nat} {fs : List Value} {as : List ps_E} {e : ps_E} (h : as[i]? = some e) : (oS g ci fs as W).2.2 (g.1 + 1 + i) = e := by
  show (if g.1 + 1 + i = g.1 then _ else if g.1 < g.1 + 1 + i then (as[g.1 + 1 + i - g.1 - 1]?).getD (g.2.2 (g.1 + 1 + i)) else g.2.2 (g.1 + 1 + i)) = e
  have e1 : g.1 + 1 + i - g.1 - 1 = i := by omega
  rw [if_neg (by omega), if_pos (by omega), e1, h]
  rfl
theorem o_up {g : ps_G} {ci W : Nat} {fs fs' : List Value} {as : List ps_E} : ps_up (oS g ci fs as W) g.1 (.inr (ci, fs')) = oS g ci fs' as W := by
  unfold ps_up oS
  refine Prod.ext rfl (Prod.ext rfl ?_)
  funext j
  show (if j = g.1 then _ else if j = g.1 then _ else _) = (if j = g.1 then _ else _)
  by_cases q : j = g.1
  · rw [if_pos q, if_pos q]
  · rw [if_neg q, if_neg q, if_neg q]
theorem o_set {g : ps_G} {ci W i : Nat} {fs : List Value} {as : List ps_E} {e : ps_E} (hi : i < as.length) : ps_up (oS g ci fs as W) (g.1 + 1 + i) e = oS g ci fs (as.set i e) W := by
  unfold ps_up oS
  refine Prod.ext ?_ (Prod.ext rfl ?_)
  · show g.1 + 1 + as.length = g.1 + 1 + (as.set i e).length
    rw [List.length_set]
  funext j
  show (if j = g.1 + 1 + i then e else if j = g.1 then _ else if g.1 < j then (as[j - g.1 - 1]?).getD (g.2.2 j) else g.2.2 j) = (if j = g.1 then _ else if g.1 < j then ((as.set i e)[j - g.1 - 1]?).getD (g.2.2 j) else g.2.2 j)
  by_cases q : j = g.1 + 1 + i
  · have n1 : ¬ j = g.1 := by omega
    have n2 : g.1 < j := by omega
    have n3 : j - g.1 - 1 = i := by omega
    rw [if_pos q, if_neg n1, if_pos n2, n3, List.getElem?_set_self hi]
    rfl
  · rw [if_neg q]
    by_cases z : j = g.1
    · rw [if_pos z, if_pos z]
    · rw [if_neg z, if_neg z]
      by_cases y : g.1 < j
      · have n3 : ¬ i = j - g.1 - 1 := by omega
        rw [if_pos y, if_pos y, List.getElem?_set_ne n3]
      · rw [if_neg y, if_neg y]
theorem o_sV {g : ps_G} {ci W k : Nat} {fs : List Value} {as : List ps_E} {v : Value} (hk : k < fs.length) : q_sV ci k (oS g ci fs as W) g.1 v = some (oS g ci (fs.set k v) as W) := by
  have c : ¬ fs.length ≤ k := by omega
  unfold q_sV
  rw [o_g]
  have e : q_O ci (.inr (ci, fs)) = some fs := show (if ci = ci then some fs else none) = some fs from if_pos rfl
  rw [e, ob_n, if_neg c, o_up]
theorem o_sI {g : ps_G} {ci W k : Nat} {fs : List Value} {as : List ps_E} {v : Int32} (hk : k < fs.length) : q_sI ci k (oS g ci fs as W) g.1 v = some (oS g ci (fs.set k (.int v)) as W) := o_sV hk
theorem o_sR {g : ps_G} {ci W k : Nat} {fs : List Value} {as : List ps_E} {v : Option Nat} (hk : k < fs.length) : q_sR ci k (oS g ci fs as W) g.1 v = some (oS g ci (fs.set k (va_rf v)) as W) := o_sV hk
theorem o_fR {g : ps_G} {ci W k a : Nat} {fs : List Value} {as : List ps_E} (hk : fs[k]? = some (.ref a)) : q_fR ci k (oS g ci fs as W) g.1 = some (some a) := by
  unfold q_fR
  rw [o_g]
  have e : q_O ci (.inr (ci, fs)) = some fs := show (if ci = ci then some fs else none) = some fs from if_pos rfl
  rw [e, ob_n, hk]
theorem o_wI {g : ps_G} {ci W i n : Nat} {fs : List Value} {as : List ps_E} {f : Nat → Int32} {x v : Int32} {X : Nat} (h : as[i]? = some (.inl (0, (n, .inl f)))) (hx : x.toNatClampNeg = X) (h0 : ¬ x < 0) (hX : X < n) (h8 : 8 ≤ g.1) {a : Nat} (ha : a = g.1 + 1 + i) : q_wI (oS g ci fs as W) a x v = some (oS g ci fs (as.set i (.inl (0, (n, .inl (upd f X v))))) W) := by
  have hi : i < as.length := (List.getElem?_eq_some_iff.mp h).1
  unfold q_wI
  have e : q_I 0 (.inl (0, (n, .inl f))) = some (n, f) := show (if (0 : Nat) = 0 then some (n, f) else none) = some (n, f) from if_pos rfl
  rw [ha, o_at h, e, ob_n, hx]
  have c : ¬ (x < 0 ∨ n ≤ X ∨ g.1 + 1 + i < 8) := by
    rintro (z | z | z)
    · exact h0 z
    · omega
    · omega
  rw [if_neg c, o_set hi]
theorem o_fl {g : ps_G} {ci W ci' W' : Nat} {fs fs' : List Value} {as as' : List ps_E} : oS (oS g ci fs as W) ci' fs' as' W' = oS g ci fs (as ++ (.inr (ci', fs') :: as')) (W + W') := by
  have ln : (as ++ ((.inr (ci', fs') : ps_E) :: as')).length = as.length + (as'.length + 1) := by rw [List.length_append]; rfl
  refine Prod.ext ?_ (Prod.ext ?_ ?_)
  · show g.1 + 1 + as.length + 1 + as'.length = g.1 + 1 + (as ++ ((.inr (ci', fs') : ps_E) :: as')).length
    rw [ln]; omega
  · show g.2.1 + W + W' = g.2.1 + (W + W')
    omega
  · funext j
    show (if j = g.1 + 1 + as.length then (.inr (ci', fs') : ps_E) else if g.1 + 1 + as.length < j then (as'[j - (g.1 + 1 + as.length) - 1]?).getD (if j = g.1 then .inr (ci, fs) else if g.1 < j then (as[j - g.1 - 1]?).getD (g.2.2 j) else g.2.2 j) else (if j = g.1 then .inr (ci, fs) else if g.1 < j then (as[j - g.1 - 1]?).getD (g.2.2 j) else g.2.2 j)) = (if j = g.1 then .inr (ci, fs) else if g.1 < j then ((as ++ ((.inr (ci', fs') : ps_E) :: as'))[j - g.1 - 1]?).getD (g.2.2 j) else g.2.2 j)
    by_cases q : j = g.1 + 1 + as.length
    · have n1 : ¬ j = g.1 := by omega
      have n2 : g.1 < j := by omega
      have n3 : j - g.1 - 1 = as.length := by omega
      rw [if_pos q, if_neg n1, if_pos n2, n3, List.getElem?_append_right (Nat.le_refl _), Nat.sub_self]
      rfl
    · rw [if_neg q]
      by_cases z : g.1 + 1 + as.length < j
      · have n1 : ¬ j = g.1 := by omega
        have n2 : g.1 < j := by omega
        have n3 : j - g.1 - 1 - as.length = (j - (g.1 + 1 + as.length) - 1) + 1 := by omega
        have n4 : as.length ≤ j - g.1 - 1 := by omega
        rw [if_pos z, if_neg n1, if_pos n2, if_neg n1, if_pos n2, List.getElem?_append_right n4, n3, List.getElem?_cons_succ, List.getElem?_eq_none n4]
        rfl
      · rw [if_neg z]
        by_cases y : j = g.1
        · rw [if_pos y, if_pos y]
        · rw [if_neg y, if_neg y]
          by_cases x : g.1 < j
          · have n4 : j - g.1 - 1 < as.length := by omega
            rw [if_pos x, if_pos x, List.getElem?_append_left n4]
          · rw [if_neg x, if_neg x]
theorem o_gr {g : ps_G} {ci W N K : Nat} {fs : List Value} {as : List ps_E} : ps_gr (oS g ci fs as W) N K = oS g ci fs (as ++ (.inl (5, (N, .inr (.inr (.inr (.inr fun i => if i < N then some (g.1 + 1 + as.length + 1 + i) else none))))) :: List.replicate N (.inl (0, (K, .inl fun _ => 0))))) (W + N + N * K) := by
  have ln : ∀ e : ps_E, (as ++ (e :: List.replicate N ((.inl (0, (K, .inl fun _ => 0))) : ps_E))).length = as.length + (N + 1) := fun e => by
    rw [List.length_append, List.length_cons, List.length_replicate]
  refine Prod.ext ?_ (Prod.ext ?_ ?_)
  · show g.1 + 1 + as.length + 1 + N = g.1 + 1 + (as ++ _ :: List.replicate N _).length
    rw [ln]; omega
  · show g.2.1 + W + N + N * K = g.2.1 + (W + N + N * K)
    omega
  · funext j
    show (if j = g.1 + 1 + as.length then (.inl (5, (N, .inr (.inr (.inr (.inr fun i => if i < N then some (g.1 + 1 + as.length + 1 + i) else none))))) : ps_E) else if g.1 + 1 + as.length < j ∧ j < g.1 + 1 + as.length + 1 + N then .inl (0, (K, .inl fun _ => 0)) else (if j = g.1 then .inr (ci, fs) else if g.1 < j then (as[j - g.1 - 1]?).getD (g.2.2 j) else g.2.2 j)) = (if j = g.1 then .inr (ci, fs) else if g.1 < j then ((as ++ (.inl (5, (N, .inr (.inr (.inr (.inr fun i => if i < N then some (g.1 + 1 + as.length + 1 + i) else none))))) :: List.replicate N (.inl (0, (K, .inl fun _ => 0)))))[j - g.1 - 1]?).getD (g.2.2 j) else g.2.2 j)
    by_cases q : j = g.1 + 1 + as.length
    · have n1 : ¬ j = g.1 := by omega
      have n2 : g.1 < j := by omega
      have n3 : j - g.1 - 1 = as.length := by omega
      rw [if_pos q, if_neg n1, if_pos n2, n3, List.getElem?_append_right (Nat.le_refl _), Nat.sub_self]
      rfl
    · rw [if_neg q]
      by_cases z : g.1 + 1 + as.length < j
      · have n1 : ¬ j = g.1 := by omega
        have n2 : g.1 < j := by omega
        have n3 : j - g.1 - 1 - as.length = (j - (g.1 + 1 + as.length) - 1) + 1 := by omega
        have n4 : as.length ≤ j - g.1 - 1 := by omega
        by_cases y : j < g.1 + 1 + as.length + 1 + N
        · have n5 : j - (g.1 + 1 + as.length) - 1 < N := by omega
          rw [if_pos ⟨z, y⟩, if_neg n1, if_pos n2, List.getElem?_append_right n4, n3, List.getElem?_cons_succ, List.getElem?_replicate, if_pos n5]
          rfl
        · have n5 : ¬ j - (g.1 + 1 + as.length) - 1 < N := by omega
          rw [if_neg (fun x => y x.2), if_neg n1, if_pos n2, if_neg n1, if_pos n2, List.getElem?_append_right n4, n3, List.getElem?_cons_succ, List.getElem?_replicate, if_neg n5, List.getElem?_eq_none n4]
      · rw [if_neg (fun x => z x.1)]
        by_cases y : j = g.1
        · rw [if_pos y, if_pos y]
        · rw [if_neg y, if_neg y]
          by_cases x : g.1 < j
          · have n4 : j - g.1 - 1 < as.length := by omega
            rw [if_pos x, if_pos x, List.getElem?_append_left n4]
          · rw [if_neg x, if_neg x]
