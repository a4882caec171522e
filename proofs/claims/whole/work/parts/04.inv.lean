/-! What holds goes on to hold. -/
theorem jt_pl_up {p : Nat → jt_O} {n m : Nat} {o : jt_O} {j : Nat} (h : j ≤ m) : jt_pl (va_up p m o) n j = jt_pl p n j := by
  induction j with
  | zero => rfl
  | succ j ih => rw [jt_pl, jt_pl, ih (by omega), va_up_ne _ _ (by omega)]
theorem jt_pl_sh {p : Nat → jt_O} {n : Nat} (j : Nat) : jt_pl (fun i => p (i + 1)) (jt_ln n (p 0)) j = jt_pl p n (j + 1) := by
  induction j with
  | zero => rfl
  | succ j ih => rw [jt_pl, ih]; rfl
theorem jt_pl_eq {p q : Nat → jt_O} {n m : Nat} (h : ∀ j, j < m → p j = q j) {j : Nat} (hj : j ≤ m) : jt_pl p n j = jt_pl q n j := by
  induction j with
  | zero => rfl
  | succ j ih => rw [jt_pl, jt_pl, ih (by omega), h j (by omega)]
/-- an edit made: the client -/
theorem jt_ci_mk {H : Nat → jt_O} {N c : Nat} {C : jt_C} {o : jt_O} {fl : Nat} (h : jt_ci H N c C) (hp : jc_pn C < 8) (ho : jt_ok (jc_tx C).2 o) (hw : jt_wf o) (hs : o.2.2.2 = c) (hf : fl = 1 → o.1 ≠ 0) : jt_ci H N c (jt_mk C o fl) := by
  obtain ⟨⟨a1, a2, a3, a4⟩, ⟨b1, b2, b3, b4⟩, ⟨c1, c2, c3⟩, d⟩ := h
  have ho' : jt_ok (jt_le (jc_lo C) (jc_ln C)) o := ho
  refine ⟨⟨a1, ?_, ?_, a4⟩, ⟨?_, ?_, ?_, ?_⟩, ⟨c1, ?_, ?_⟩, ?_⟩
  · show jc_pn C + 1 ≤ 8
    omega
  · show jc_ln C + 1 = jc_rv C + (jc_pn C + 1)
    omega
  · exact jt_all_up b1 ho' hw
  · intro j hj
    have hj : j < jc_pn C + 1 := hj
    show jt_ok (jt_pl (va_up (jc_pe C) (jc_pn C) o) (jt_le H (jc_rv C)) j) (va_up (jc_pe C) (jc_pn C) o j) ∧ jt_wf (va_up (jc_pe C) (jc_pn C) o j)
    rw [jt_pl_up (by omega)]
    by_cases e : j = jc_pn C
    · subst e
      rw [va_up_self, b3]
      exact ⟨ho', hw⟩
    · rw [va_up_ne _ _ e]
      exact b2 j (by omega)
  · show jt_pl (va_up (jc_pe C) (jc_pn C) o) (jt_le H (jc_rv C)) (jc_pn C + 1) = jt_le (va_up (jc_lo C) (jc_ln C) o) (jc_ln C + 1)
    rw [jt_pl, jt_pl_up (Nat.le_refl _), va_up_self, b3, jt_le_s, jt_le_up (Nat.le_refl _), va_up_self]
  · intro j hj
    have hj : j < jc_pn C + 1 := hj
    show (va_up (jc_pe C) (jc_pn C) o j).2.2.2 = c
    by_cases e : j = jc_pn C
    · subst e
      rw [va_up_self]
      exact hs
    · rw [va_up_ne _ _ e]
      exact b4 j (by omega)
  · show jt_ct H c N ≤ jc_bk C + (if jc_pn C + 1 = 0 then 0 else 1)
    rw [if_neg (by omega)]
    split at c2 <;> omega
  · intro k k1 k2 k3
    show H k = jt_ms H (jc_rv C) (va_up (jc_pe C) (jc_pn C) o 0) (k - jc_rv C)
    by_cases e : jc_pn C = 0
    · exfalso
      rw [if_pos e] at c2
      have h1 : jt_ct H c (k + 1) ≤ jt_ct H c N := jt_ct_le (by omega)
      have h2 : jt_ct H c (jc_rv C) ≤ jt_ct H c k := jt_ct_le k1
      rw [jt_ct, if_pos k3] at h1
      have k1 : jt_ct H c (jc_rv C) = jc_bk C := c1
      omega
    · rw [va_up_ne _ _ (Ne.symm e)]
      exact c3 k k1 k2 k3
  · intro j hj hf1
    have hj : j < jc_ln C + 1 := hj
    have hf1 : va_up (jc_lf C) (jc_ln C) fl j = 1 := hf1
    show (va_up (jc_lo C) (jc_ln C) o j).1 ≠ 0 ∧ (va_up (jc_lo C) (jc_ln C) o j).2.2.2 = c ∧ va_up (jc_lc C) (jc_ln C) (jt_ch (jc_tx C) o) j < 128
    by_cases e : j = jc_ln C
    · subst e
      rw [va_up_self] at hf1
      rw [va_up_self, va_up_self]
      refine ⟨hf hf1, hs, ?_⟩
      unfold jt_ch
      split
      · exact hw.1
      · split
        · next h2 => exact jt_tx_ch b1 _ (ho'.2.2.1 h2)
        · decide
    · rw [va_up_ne _ _ e] at hf1
      rw [va_up_ne _ _ e, va_up_ne _ _ e]
      exact d j (by omega) hf1
/-- the news of its own op: the client; its first pending edit is that op -/
theorem jt_ci_own {H : Nat → jt_O} {N c : Nat} {C : jt_C} (h : jt_ci H N c C) (hr : jc_rv C < N) (hs : (H (jc_rv C)).2.2.2 = c) : jc_pn C ≠ 0 ∧ jc_pe C 0 = H (jc_rv C) ∧ jt_ci H N c (jt_ow C) := by
  obtain ⟨⟨a1, a2, a3, a4⟩, ⟨b1, b2, b3, b4⟩, ⟨c1, c2, c3⟩, d⟩ := h
  have h0 := c3 (jc_rv C) (Nat.le_refl _) hr hs
  rw [Nat.sub_self] at h0
  have h0 : H (jc_rv C) = jc_pe C 0 := h0
  have h1 : jt_ct H c (jc_rv C + 1) ≤ jt_ct H c N := jt_ct_le (by omega)
  rw [jt_ct, if_pos hs, c1] at h1
  have hp : jc_pn C ≠ 0 := fun e => by rw [if_pos e] at c2; omega
  rw [if_neg hp] at c2
  refine ⟨hp, h0.symm, ⟨?_, ?_, ?_, a4⟩, ⟨b1, ?_, ?_, ?_⟩, ⟨?_, ?_, ?_⟩, d⟩
  · show jc_rv C + 1 ≤ N
    omega
  · show jc_pn C - 1 ≤ 8
    omega
  · show jc_ln C = jc_rv C + 1 + (jc_pn C - 1)
    omega
  · intro j hj
    have hj : j < jc_pn C - 1 := hj
    show jt_ok (jt_pl (fun i => jc_pe C (i + 1)) (jt_le H (jc_rv C + 1)) j) (jc_pe C (j + 1)) ∧ jt_wf (jc_pe C (j + 1))
    rw [jt_le_s, h0, jt_pl_sh]
    exact b2 (j + 1) (by omega)
  · show jt_pl (fun i => jc_pe C (i + 1)) (jt_le H (jc_rv C + 1)) (jc_pn C - 1) = jt_le (jc_lo C) (jc_ln C)
    rw [jt_le_s, h0, jt_pl_sh, show jc_pn C - 1 + 1 = jc_pn C by omega]
    exact b3
  · intro j hj
    have hj : j < jc_pn C - 1 := hj
    exact b4 (j + 1) (by omega)
  · show jt_ct H c (jc_rv C + 1) = jc_bk C + 1
    rw [jt_ct, if_pos hs, c1]
  · show jt_ct H c N ≤ jc_bk C + 1 + (if jc_pn C - 1 = 0 then 0 else 1)
    split <;> omega
  · intro k k1 k2 k3
    exfalso
    have k1 : jc_rv C + 1 ≤ k := k1
    have h2 : jt_ct H c (k + 1) ≤ jt_ct H c N := jt_ct_le (by omega)
    have h3 : jt_ct H c (jc_rv C + 1) ≤ jt_ct H c k := jt_ct_le k1
    rw [jt_ct, if_pos k3] at h2
    rw [jt_ct, if_pos hs, c1] at h3
    omega
/-- the news of an op of others: the client -/
theorem jt_ci_oth {H : Nat → jt_O} {N c : Nat} {C : jt_C} (h : jt_ci H N c C) (hH : jt_all H N) (hr : jc_rv C < N) (hs : (H (jc_rv C)).2.2.2 ≠ c) : jt_ci H N c (jt_ot C (H (jc_rv C))) := by
  obtain ⟨⟨a1, a2, a3, a4⟩, ⟨b1, b2, b3, b4⟩, ⟨c1, c2, c3⟩, d⟩ := h
  obtain ⟨o1, o2⟩ := hH (jc_rv C) hr
  obtain ⟨e1, e2⟩ := jt_oc_ok b2 o1 (jc_pn C) (Nat.le_refl _)
  have e3 := jt_pp_pa b2 o1
  have pe : ∀ j, j < jc_pn C → (fun j => if j < jc_pn C then jt_pp (jc_pe C) (H (jc_rv C)) j else jc_pe C j) j = jt_pp (jc_pe C) (H (jc_rv C)) j := fun j hj => if_pos hj
  rw [b3] at e1 e2
  refine ⟨⟨?_, a2, ?_, a4⟩, ⟨?_, ?_, ?_, ?_⟩, ⟨?_, c2, ?_⟩, ?_⟩
  · show jc_rv C + 1 ≤ N
    omega
  · show jc_ln C + 1 = jc_rv C + 1 + jc_pn C
    omega
  · exact jt_all_up b1 e1 (jt_oc_wf o2 _)
  · intro j hj
    have hj : j < jc_pn C := hj
    show jt_ok (jt_pl (fun j => if j < jc_pn C then jt_pp (jc_pe C) (H (jc_rv C)) j else jc_pe C j) (jt_le H (jc_rv C + 1)) j) ((fun j => if j < jc_pn C then jt_pp (jc_pe C) (H (jc_rv C)) j else jc_pe C j) j) ∧ jt_wf ((fun j => if j < jc_pn C then jt_pp (jc_pe C) (H (jc_rv C)) j else jc_pe C j) j)
    rw [pe j hj, jt_pl_eq pe (by omega), jt_le_s]
    exact e3 j hj
  · show jt_pl (fun j => if j < jc_pn C then jt_pp (jc_pe C) (H (jc_rv C)) j else jc_pe C j) (jt_le H (jc_rv C + 1)) (jc_pn C) = jt_le (va_up (jc_lo C) (jc_ln C) (jt_oc (jc_pe C) (H (jc_rv C)) (jc_pn C))) (jc_ln C + 1)
    rw [jt_pl_eq pe (Nat.le_refl _), jt_le_s, e2, jt_le_s, jt_le_up (Nat.le_refl _), va_up_self]
  · intro j hj
    have hj : j < jc_pn C := hj
    show ((fun j => if j < jc_pn C then jt_pp (jc_pe C) (H (jc_rv C)) j else jc_pe C j) j).2.2.2 = c
    rw [pe j hj]
    show (jt_mv _ _).2.2.2 = c
    rw [jt_mv_site]
    exact b4 j hj
  · show jt_ct H c (jc_rv C + 1) = jc_bk C
    rw [jt_ct, if_neg hs, c1]
  · intro k k1 k2 k3
    have k1 : jc_rv C + 1 ≤ k := k1
    show H k = jt_ms H (jc_rv C + 1) (if 0 < jc_pn C then jt_pp (jc_pe C) (H (jc_rv C)) 0 else jc_pe C 0) (k - (jc_rv C + 1))
    have hp : jc_pn C ≠ 0 := fun e => by
      rw [if_pos e] at c2
      have h2 : jt_ct H c (k + 1) ≤ jt_ct H c N := jt_ct_le (by omega)
      have h3 : jt_ct H c (jc_rv C) ≤ jt_ct H c k := jt_ct_le (by omega)
      rw [jt_ct, if_pos k3] at h2
      omega
    rw [if_pos (by omega)]
    have h4 := c3 k (by omega) k2 k3
    rw [show k - jc_rv C = 1 + (k - (jc_rv C + 1)) by omega, jt_ms_add] at h4
    exact h4
  · intro j hj hf1
    have hj : j < jc_ln C + 1 := hj
    have hf1 : va_up (jc_lf C) (jc_ln C) 0 j = 1 := hf1
    by_cases e : j = jc_ln C
    · subst e
      rw [va_up_self] at hf1
      exact absurd hf1 (by decide)
    · rw [va_up_ne _ _ e] at hf1
      show (va_up (jc_lo C) (jc_ln C) _ j).1 ≠ 0 ∧ (va_up (jc_lo C) (jc_ln C) _ j).2.2.2 = c ∧ va_up (jc_lc C) (jc_ln C) _ j < 128
      rw [va_up_ne _ _ e, va_up_ne _ _ e]
      exact d j (by omega) hf1
/-- the history grows: the clients -/
theorem jt_ci_his {H : Nat → jt_O} {N c : Nat} {C : jt_C} {o : jt_O} (h : jt_ci H N c C) (ho : o.2.2.2 = c → jc_pn C ≠ 0 ∧ jt_ct H c N = jc_bk C ∧ o = jt_ms H (jc_rv C) (jc_pe C 0) (N - jc_rv C)) : jt_ci (va_up H N o) (N + 1) c C := by
  obtain ⟨⟨a1, a2, a3, a4⟩, ⟨b1, b2, b3, b4⟩, ⟨c1, c2, c3⟩, d⟩ := h
  refine ⟨⟨by omega, a2, a3, a4⟩, ⟨b1, ?_, ?_, b4⟩, ⟨?_, ?_, ?_⟩, d⟩
  · rw [jt_le_up a1]; exact b2
  · rw [jt_le_up a1]; exact b3
  · rw [jt_ct_up a1]; exact c1
  · rw [jt_ct, jt_ct_up (Nat.le_refl _), va_up_self]
    by_cases e : o.2.2.2 = c
    · rw [if_pos e]
      obtain ⟨h1, h2, -⟩ := ho e
      rw [if_neg h1]
      omega
    · rw [if_neg e]; exact c2
  · intro k k1 k2 k3
    rw [jt_ms_up (by omega)]
    by_cases e : k = N
    · subst e
      rw [va_up_self] at k3 ⊢
      exact (ho k3).2.2
    · rw [va_up_ne _ _ e] at k3 ⊢
      exact c3 k k1 (by omega) k3
/-- the messages, where a client changes: an edit made -/
theorem jt_mi_mk {H : Nat → jt_O} {N : Nat} {num : Nat → Nat} {cl : Nat → jt_C} {m : jt_M} {c : Nat} {o : jt_O} {fl : Nat} (h : jt_mi H N num cl m) : jt_mi H N num (va_up cl c (jt_mk (cl c) o fl)) m := by
  obtain ⟨h1, h2, h3⟩ := h
  refine ⟨h1, fun e => ?_, h3⟩
  obtain ⟨g1, g2, g3, g4, g5⟩ := h2 e
  by_cases ec : m.2.1 = c
  · rw [ec] at g4 g5 ⊢
    rw [va_up_self]
    refine ⟨g1, g2, by rw [← ec]; exact g3, g4, fun q => ?_⟩
    obtain ⟨r1, r2, r3⟩ := g5 q
    refine ⟨by show jc_pn (cl c) + 1 ≠ 0; omega, r2, ?_⟩
    show _ = va_up (jc_pe (cl c)) (jc_pn (cl c)) o 0
    rw [va_up_ne _ _ (Ne.symm r1)]
    exact r3
  · rw [va_up_ne _ _ ec]
    exact ⟨g1, g2, g3, g4, g5⟩
theorem jt_mi_own {H : Nat → jt_O} {N : Nat} {num : Nat → Nat} {cl : Nat → jt_C} {m : jt_M} {c : Nat} (h : jt_mi H N num cl m) : jt_mi H N num (va_up cl c (jt_ow (cl c))) m := by
  obtain ⟨h1, h2, h3⟩ := h
  refine ⟨h1, fun e => ?_, h3⟩
  obtain ⟨g1, g2, g3, g4, g5⟩ := h2 e
  by_cases ec : m.2.1 = c
  · rw [ec] at g4 g5 ⊢
    rw [va_up_self]
    refine ⟨g1, g2, by rw [← ec]; exact g3, ?_, fun q => ?_⟩
    · show m.2.2.2.1 ≤ jc_bk (cl c) + 1
      omega
    · have q : m.2.2.2.1 = jc_bk (cl c) + 1 := q
      omega
  · rw [va_up_ne _ _ ec]
    exact ⟨g1, g2, g3, g4, g5⟩
theorem jt_mi_oth {H : Nat → jt_O} {N : Nat} {num : Nat → Nat} {cl : Nat → jt_C} {m : jt_M} {c : Nat} (h : jt_mi H N num cl m) : jt_mi H N num (va_up cl c (jt_ot (cl c) (H (jc_rv (cl c))))) m := by
  obtain ⟨h1, h2, h3⟩ := h
  refine ⟨h1, fun e => ?_, h3⟩
  obtain ⟨g1, g2, g3, g4, g5⟩ := h2 e
  by_cases ec : m.2.1 = c
  · rw [ec] at g4 g5 ⊢
    rw [va_up_self]
    refine ⟨g1, g2, by rw [← ec]; exact g3, g4, fun q => ?_⟩
    obtain ⟨r1, r2, r3⟩ := g5 q
    refine ⟨r1, by show m.2.2.1 ≤ jc_rv (cl c) + 1; omega, ?_⟩
    show jt_ms H m.2.2.1 m.2.2.2.2.1 (jc_rv (cl c) + 1 - m.2.2.1) = (if 0 < jc_pn (cl c) then jt_pp (jc_pe (cl c)) (H (jc_rv (cl c))) 0 else jc_pe (cl c) 0)
    rw [if_pos (by omega), show jc_rv (cl c) + 1 - m.2.2.1 = (jc_rv (cl c) - m.2.2.1) + 1 by omega, jt_ms, r3, show m.2.2.1 + (jc_rv (cl c) - m.2.2.1) = jc_rv (cl c) by omega]
    rfl
  · rw [va_up_ne _ _ ec]
    exact ⟨g1, g2, g3, g4, g5⟩
theorem jt_mi_his {H : Nat → jt_O} {N : Nat} {num : Nat → Nat} {cl : Nat → jt_C} {m : jt_M} {o : jt_O} {n : Nat} (h : jt_mi H N num cl m) (hc : ∀ c, c < 3 → jc_rv (cl c) ≤ N) : jt_mi (va_up H N o) (N + 1) (va_up num N n) cl m := by
  obtain ⟨⟨h1, h2, h3, h4⟩, h5, h6⟩ := h
  refine ⟨⟨h1, h2, h3, by omega⟩, fun e => ?_, fun e => ?_⟩
  · obtain ⟨g1, g2, g3, g4, g5⟩ := h5 e
    rw [jt_le_up h4]
    refine ⟨g1, g2, g3, g4, fun q => ?_⟩
    obtain ⟨r1, r2, r3⟩ := g5 q
    have := hc _ h2
    rw [jt_ms_up (by omega)]
    exact ⟨r1, r2, r3⟩
  · obtain ⟨g1, g2, g3⟩ := h6 e
    rw [va_up_ne _ _ (by omega), va_up_ne _ _ (by omega)]
    exact ⟨by omega, g2, g3⟩
