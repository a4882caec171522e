/-! The line, and the calls. -/
/-- the line holds -/
def jt_li (H : Nat → jt_O) (N : Nat) (num : Nat → Nat) (cl : Nat → jt_C) (L : jt_L) : Prop := L.2 ≤ 30 ∧ ∀ k, k < L.2 → jt_mi H N num cl (L.1 k)
theorem jt_li_sd {H : Nat → jt_O} {N : Nat} {num : Nat → Nat} {cl : Nat → jt_C} {L : jt_L} {m : jt_M} (h : jt_li H N num cl L) (hm : jt_mi H N num cl m) : jt_li H N num cl (jt_sd L m) := by
  unfold jt_sd
  split
  · next hl =>
    refine ⟨by show L.2 + 1 ≤ 30; omega, fun k hk => ?_⟩
    have hk : k < L.2 + 1 := hk
    show jt_mi H N num cl (va_up L.1 L.2 m k)
    by_cases e : k = L.2
    · subst e
      rw [va_up_self]
      exact hm
    · rw [va_up_ne _ _ e]
      exact h.2 k (by omega)
  · exact h
theorem jt_li_tk {H : Nat → jt_O} {N : Nat} {num : Nat → Nat} {cl : Nat → jt_C} {L : jt_L} {k : Nat} (h : jt_li H N num cl L) (hk : k < L.2) : jt_li H N num cl (jt_tk L k) := by
  obtain ⟨h1, h2⟩ := h
  refine ⟨by show L.2 - 1 ≤ 30; omega, fun j hj => ?_⟩
  have hj : j < L.2 - 1 := hj
  show jt_mi H N num cl (if j < k then L.1 j else L.1 (j + 1))
  split
  · exact h2 j (by omega)
  · exact h2 (j + 1) (by omega)
theorem jt_mi_ask {H : Nat → jt_O} {N : Nat} {num : Nat → Nat} {cl : Nat → jt_C} {c : Nat} (hc : c < 3) (h : jt_ci H N c (cl c)) : jt_mi H N num cl (1, c, jc_rv (cl c), 0, (0, 0, 0, c), 0) :=
  ⟨⟨(by decide : 1 ≤ 2), hc, (by decide : 0 < 256), h.1.1⟩, fun e => absurd e (by decide : ¬ (1 = 0)), fun e => absurd e (by decide : ¬ (1 = 2))⟩
theorem jt_mi_edit {H : Nat → jt_O} {N : Nat} {num : Nat → Nat} {cl : Nat → jt_C} {c : Nat} (hc : c < 3) (h : jt_ci H N c (cl c)) (hp : jc_pn (cl c) ≠ 0) : jt_mi H N num cl (0, c, jc_rv (cl c), jc_bk (cl c), jc_pe (cl c) 0, 0) := by
  obtain ⟨⟨a1, a2, a3, a4⟩, ⟨b1, b2, b3, b4⟩, c0, d⟩ := h
  refine ⟨⟨(by decide : 0 ≤ 2), hc, (by decide : 0 < 256), a1⟩, fun _ => ?_, fun e => absurd e (by decide : ¬ (0 = 2))⟩
  obtain ⟨g1, g2⟩ := b2 0 (by omega)
  exact ⟨g1, g2, b4 0 (by omega), Nat.le_refl _, fun _ => ⟨hp, Nat.le_refl _, by rw [Nat.sub_self]; rfl⟩⟩
theorem jt_mi_news {H : Nat → jt_O} {N : Nat} {num : Nat → Nat} {cl : Nat → jt_C} {c i : Nat} (hc : c < 3) (hi : i < N) : jt_mi H N num cl (2, c, i, num i, H i, 0) :=
  ⟨⟨(by decide : 2 ≤ 2), hc, (by decide : 0 < 256), Nat.le_of_lt hi⟩, fun e => absurd e (by decide : ¬ (2 = 0)), fun _ => ⟨hi, rfl, rfl⟩⟩
theorem jt_li_sa {H : Nat → jt_O} {N : Nat} {num : Nat → Nat} {cl : Nat → jt_C} {L : jt_L} {c : Nat} (h : jt_li H N num cl L) (hc : c < 3) (hi : jt_ci H N c (cl c)) : jt_li H N num cl (jt_sa c (cl c) L) := by
  unfold jt_sa
  split
  · exact h
  · split
    · exact jt_li_sd h (jt_mi_ask hc hi)
    · next hp => exact jt_li_sd h (jt_mi_edit hc hi hp)
theorem jt_li_nw {H : Nat → jt_O} {N : Nat} {num : Nat → Nat} {cl : Nat → jt_C} {L : jt_L} {c r : Nat} (h : jt_li H N num cl L) (hc : c < 3) : ∀ j, r + j ≤ N → jt_li H N num cl (jt_nw H num c r L j) := by
  intro j
  induction j with
  | zero => intro _; exact h
  | succ j ih => intro hj; exact jt_li_sd (ih (by omega)) (jt_mi_news hc (by omega))
theorem jt_li_na {H : Nat → jt_O} {N : Nat} {num : Nat → Nat} {cl : Nat → jt_C} {L : jt_L} {i : Nat} (h : jt_li H N num cl L) (hi : i < N) : ∀ j, j ≤ 3 → jt_li H N num cl (jt_na H num i L j) := by
  intro j
  induction j with
  | zero => intro _; exact h
  | succ j ih => intro hj; exact jt_li_sd (ih (by omega)) (jt_mi_news (by omega) hi)
/-- all that holds, by its parts -/
theorem jt_inv_li {S : jt_S} (h : jt_inv S) : jt_li (js_H S) (js_N S) (js_num S) (js_cl S) (js_L S) := h.2.2
/-- an edit made by the client c -/
def jt_s_mk (S : jt_S) (c : Nat) (o : jt_O) (fl : Nat) : jt_S :=
  (js_H S, js_N S, js_num S, va_up (js_cl S) c (jt_mk (js_cl S c) o fl), if jc_pn (js_cl S c) = 0 then jt_sa c (jt_mk (js_cl S c) o fl) (js_L S) else js_L S, js_up S, js_tr S)
theorem jt_inv_mk {S : jt_S} {c : Nat} {o : jt_O} {fl : Nat} (h : jt_inv S) (hc : c < 3) (hp : jc_pn (js_cl S c) < 8) (ho : jt_ok (jc_tx (js_cl S c)).2 o) (hw : jt_wf o) (hs : o.2.2.2 = c) (hf : fl = 1 → o.1 ≠ 0) : jt_inv (jt_s_mk S c o fl) := by
  obtain ⟨h1, h2, h3, h4⟩ := h
  have hC := jt_ci_mk (h2 c hc) hp ho hw hs hf
  have hcl : ∀ d, d < 3 → jt_ci (js_H S) (js_N S) d (va_up (js_cl S) c (jt_mk (js_cl S c) o fl) d) := fun d hd => by
    by_cases e : d = c
    · subst e
      rw [va_up_self]
      exact hC
    · rw [va_up_ne _ _ e]
      exact h2 d hd
  have hL : jt_li (js_H S) (js_N S) (js_num S) (va_up (js_cl S) c (jt_mk (js_cl S c) o fl)) (js_L S) := ⟨h3, fun k hk => jt_mi_mk (h4 k hk)⟩
  refine ⟨h1, hcl, ?_⟩
  show jt_li (js_H S) (js_N S) (js_num S) (va_up (js_cl S) c (jt_mk (js_cl S c) o fl)) (if jc_pn (js_cl S c) = 0 then jt_sa c (jt_mk (js_cl S c) o fl) (js_L S) else js_L S)
  split
  · have := jt_li_sa hL hc (hcl c hc)
    rw [va_up_self] at this
    exact this
  · exact hL
/-- the flags of the log and undo -/
def jt_la (lf : Nat → Nat) : Nat → Option Nat
  | 0 => none
  | k + 1 => if lf k = 1 then some k else jt_la lf k
theorem jt_la_some {lf : Nat → Nat} {n j : Nat} (h : jt_la lf n = some j) : j < n ∧ lf j = 1 ∧ ∀ i, j < i → i < n → lf i ≠ 1 := by
  induction n with
  | zero => cases h
  | succ n ih =>
    unfold jt_la at h
    split at h
    · next e => cases h; exact ⟨by omega, e, fun i h1 h2 => by omega⟩
    · next e =>
      obtain ⟨h1, h2, h3⟩ := ih h
      refine ⟨by omega, h2, fun i g1 g2 => ?_⟩
      by_cases q : i = n
      · subst q; exact e
      · exact h3 i g1 (by omega)
theorem jt_la_none {lf : Nat → Nat} {n : Nat} (h : jt_la lf n = none) : ∀ i, i < n → lf i ≠ 1 := by
  induction n with
  | zero => intro i hi; omega
  | succ n ih =>
    unfold jt_la at h
    split at h
    · cases h
    · next e =>
      intro i hi
      by_cases q : i = n
      · subst q; exact e
      · exact ih h i (by omega)
/-- what takes the op at j back, before it is moved -/
def jt_iv (C : jt_C) (j : Nat) : jt_O := if (jc_lo C j).1 = 1 then (2, (jc_lo C j).2.1, 0, (jc_lo C j).2.2.2) else (1, (jc_lo C j).2.1, jc_lc C j, (jc_lo C j).2.2.2)
def jt_bo (C : jt_C) (j : Nat) : jt_O := jt_ms (jc_lo C) (j + 1) (jt_iv C j) (jc_ln C - (j + 1))
/-- the client with the edit at j undone -/
def jt_ud (C : jt_C) (j : Nat) : jt_C := (jc_lo C, jc_lc C, va_up (jc_lf C) j 3, jc_ln C, jc_pe C, jc_pn C, jc_bk C, jc_rv C, jc_on C)
theorem jt_ci_ud {H : Nat → jt_O} {N c j : Nat} {C : jt_C} (h : jt_ci H N c C) : jt_ci H N c (jt_ud C j) := by
  obtain ⟨a, b, c0, d⟩ := h
  refine ⟨a, b, c0, fun i hi hf => ?_⟩
  have hf : va_up (jc_lf C) j 3 i = 1 := hf
  by_cases e : i = j
  · subst e
    rw [va_up_self] at hf
    exact absurd hf (by decide)
  · rw [va_up_ne _ _ e] at hf
    exact d i hi hf
theorem jt_bo_ok {H : Nat → jt_O} {N c j : Nat} {C : jt_C} (h : jt_ci H N c C) (hj : j < jc_ln C) (hf : jc_lf C j = 1) : jt_ok (jc_tx C).2 (jt_bo C j) ∧ jt_wf (jt_bo C j) ∧ (jt_bo C j).2.2.2 = c := by
  obtain ⟨⟨a1, a2, a3, a4⟩, ⟨b1, b2, b3, b4⟩, c0, d⟩ := h
  obtain ⟨d1, d2, d3⟩ := d j hj hf
  obtain ⟨⟨o1, o2, o3, o4⟩, w1, w2⟩ := b1 j hj
  have hv : jt_ok (jt_le (jc_lo C) (j + 1)) (jt_iv C j) := by
    rw [jt_le_s]
    unfold jt_iv jt_ln
    by_cases e : (jc_lo C j).1 = 1
    · rw [if_pos e, if_pos e]
      have := o2 e
      exact ⟨Nat.le_refl 2, fun h => absurd (show 2 = 1 from h) (by decide), fun _ => by show (jc_lo C j).2.1 < jt_le (jc_lo C) j + 1; omega, fun h => absurd (show 2 = 0 from h) (by decide)⟩
    · rw [if_neg e, if_neg e, if_pos (show (jc_lo C j).1 = 2 by omega)]
      have := o3 (by omega)
      exact ⟨(by decide : 1 ≤ 2), fun _ => by show (jc_lo C j).2.1 ≤ jt_le (jc_lo C) j - 1; omega, fun h => absurd (show 1 = 2 from h) (by decide), fun h => absurd (show 1 = 0 from h) (by decide)⟩
  have hvw : jt_wf (jt_iv C j) := by
    unfold jt_iv
    split
    · exact ⟨(by decide : 0 < 128), w2⟩
    · exact ⟨d3, w2⟩
  have hvs : (jt_iv C j).2.2.2 = c := by
    unfold jt_iv
    split
    · exact d2
    · exact d2
  refine ⟨?_, jt_ms_wf hvw _, by unfold jt_bo; rw [jt_ms_site]; exact hvs⟩
  have := jt_ms_ok b1 hv (jc_ln C - (j + 1)) (by omega)
  rw [show j + 1 + (jc_ln C - (j + 1)) = jc_ln C by omega] at this
  exact this
