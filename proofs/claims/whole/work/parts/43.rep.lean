/-! The reference's state beside the class's. -/
def jr_l (Q : jq_L) (L : jt_L) : Prop := Q.2.2 = L.2 ∧ ∀ k, k < L.2 → Q.2.1 k = ((L.1 k).1, (L.1 k).2.1, (L.1 k).2.2.1, (L.1 k).2.2.2.1, (L.1 k).2.2.2.2.2) ∧ ((L.1 k).1 ≠ 1 → Q.1 (324 + k) = (L.1 k).2.2.2.2.1)
theorem jr_l_send {Q : jq_L} {L : jt_L} {g c r n f : Nat} {o : jt_O} (h : jr_l Q L) (hL : L.2 ≤ 30) (ho : Q.1 f = o) : jr_l (jq_send Q (g, c, r, n, 0) f) (jt_sd L (g, c, r, n, o, 0)) := by
  obtain ⟨h1, h2⟩ := id h
  unfold jq_send jt_sd
  by_cases e : L.2 = 30
  · rw [if_pos (by omega), if_neg (by omega)]; exact h
  · rw [if_neg (by omega), if_pos (by omega)]
    refine ⟨by show Q.2.2 + 1 = L.2 + 1; omega, fun k hk => ?_⟩
    have hk : k < L.2 + 1 := hk
    show va_up Q.2.1 Q.2.2 (g, c, r, n, 0) k = _ ∧ (_ → va_up Q.1 (324 + Q.2.2) (Q.1 f) (324 + k) = (va_up L.1 L.2 (g, c, r, n, o, 0) k).2.2.2.2.1)
    dsimp only
    by_cases ek : k = L.2
    · rw [h1, ek, va_up_self, va_up_self, va_up_self]
      exact ⟨rfl, fun _ => ho⟩
    · rw [va_up_ne Q.2.1 _ (by omega), va_up_ne Q.1 _ (by omega), va_up_ne L.1 _ ek]
      exact h2 k (by omega)
theorem jr_l_post {Q : jq_L} {L : jt_L} {c r n : Nat} {o : jt_O} (h : jr_l Q L) (hL : L.2 ≤ 30) : jr_l (jq_post Q (1, c, r, n, 0)) (jt_sd L (1, c, r, n, o, 0)) := by
  obtain ⟨h1, h2⟩ := id h
  unfold jq_post jt_sd
  by_cases e : L.2 = 30
  · rw [if_pos (by omega), if_neg (by omega)]; exact h
  · rw [if_neg (by omega), if_pos (by omega)]
    refine ⟨by show Q.2.2 + 1 = L.2 + 1; omega, fun k hk => ?_⟩
    have hk : k < L.2 + 1 := hk
    show va_up Q.2.1 Q.2.2 (1, c, r, n, 0) k = _ ∧ ((va_up L.1 L.2 (1, c, r, n, o, 0) k).1 ≠ 1 → Q.1 (324 + k) = (va_up L.1 L.2 (1, c, r, n, o, 0) k).2.2.2.2.1)
    dsimp only
    by_cases ek : k = L.2
    · rw [h1, ek, va_up_self, va_up_self]
      exact ⟨rfl, fun z => absurd rfl z⟩
    · rw [va_up_ne _ _ (by omega), va_up_ne _ _ ek]
      exact h2 k (by omega)
theorem jq_send_out {Q : jq_L} {g : jq_M} {f i : Nat} (h : i < 324 ∨ 354 ≤ i) (hQ : Q.2.2 ≤ 30) : (jq_send Q g f).1 i = Q.1 i := by
  unfold jq_send
  by_cases e : Q.2.2 = 30
  · rw [if_pos e]
  · rw [if_neg e]
    exact va_up_ne _ _ (by omega)
theorem jq_post_O {Q : jq_L} {g : jq_M} : (jq_post Q g).1 = Q.1 := by
  unfold jq_post
  split
  · rfl
  · rfl
theorem jq_speak_out {o p r b c i : Nat} {Q : jq_L} (h : i < 324 ∨ 354 ≤ i) (hQ : Q.2.2 ≤ 30) : (jq_speak o p r b c Q).1 i = Q.1 i := by
  unfold jq_speak
  split
  · rfl
  · split
    · rw [jq_post_O]
    · exact jq_send_out h hQ
theorem jr_l_speak {Q : jq_L} {L : jt_L} {c : Nat} {C : jt_C} (h : jr_l Q L) (hL : L.2 ≤ 30) (hon : jc_on C ≤ 1) (hp : jc_pn C ≠ 0 → Q.1 (300 + 8 * c) = jc_pe C 0) : jr_l (jq_speak (1 - jc_on C) (jc_pn C) (jc_rv C) (jc_bk C) c Q) (jt_sa c C L) := by
  unfold jq_speak jt_sa
  by_cases e : jc_on C = 0
  · rw [if_pos e, if_pos (by omega)]; exact h
  · rw [if_neg e, if_neg (by omega)]
    by_cases e2 : jc_pn C = 0
    · rw [if_pos e2, if_pos e2]; exact jr_l_post h hL
    · rw [if_neg e2, if_neg e2]; exact jr_l_send h hL (hp e2)
theorem jr_l_take {Q : jq_L} {L : jt_L} {k : Nat} (h : jr_l Q L) (hk : k < L.2) : jr_l (jq_take Q k) (jt_tk L k) := by
  obtain ⟨h1, h2⟩ := id h
  refine ⟨by show Q.2.2 - 1 = L.2 - 1; omega, fun i hi => ?_⟩
  have hi : i < L.2 - 1 := hi
  by_cases e : i < k
  · have a1 : jq_sh Q.2.1 0 k (Q.2.2 - 1) i = Q.2.1 i := by unfold jq_sh; rw [if_neg (by omega)]
    have a2 : jq_sh Q.1 324 k (Q.2.2 - 1) (324 + i) = Q.1 (324 + i) := by unfold jq_sh; rw [if_neg (by omega)]
    have a3 : (jt_tk L k).1 i = L.1 i := if_pos e
    show jq_sh Q.2.1 0 k (Q.2.2 - 1) i = _ ∧ (_ → jq_sh Q.1 324 k (Q.2.2 - 1) (324 + i) = _)
    rw [a1, a2, a3]
    exact h2 i (by omega)
  · have a1 : jq_sh Q.2.1 0 k (Q.2.2 - 1) i = Q.2.1 (i + 1) := by unfold jq_sh; rw [if_pos (by omega)]
    have a2 : jq_sh Q.1 324 k (Q.2.2 - 1) (324 + i) = Q.1 (324 + (i + 1)) := by unfold jq_sh; rw [if_pos (by omega)]; rfl
    have a3 : (jt_tk L k).1 i = L.1 (i + 1) := if_neg e
    show jq_sh Q.2.1 0 k (Q.2.2 - 1) i = _ ∧ (_ → jq_sh Q.1 324 k (Q.2.2 - 1) (324 + i) = _)
    rw [a1, a2, a3]
    exact h2 (i + 1) (by omega)
theorem jq_take_out {Q : jq_L} {k i : Nat} (h : i < 324 ∨ 354 ≤ i) (hQ : Q.2.2 ≤ 30) : (jq_take Q k).1 i = Q.1 i := by
  show jq_sh Q.1 324 k (Q.2.2 - 1) i = Q.1 i
  unfold jq_sh
  rw [if_neg (by omega)]
theorem jq_ans_out {num : Nat → Nat} {c r i : Nat} {Q : jq_L} (h : i < 324 ∨ 354 ≤ i) (hQ : Q.2.2 ≤ 30) : ∀ j, (jq_ans num c r Q j).1 i = Q.1 i := by
  intro j
  induction j with
  | zero => rfl
  | succ j ih => rw [jq_ans, jq_send_out h (jq_ans_le hQ j)]; exact ih
theorem jr_l_ans {Q : jq_L} {L : jt_L} {H : Nat → jt_O} {num nu : Nat → Nat} {c r : Nat} (h : jr_l Q L) (hL : L.2 ≤ 30) : ∀ j, r + j ≤ 60 → (∀ i, i < r + j → Q.1 i = H i ∧ num i = nu i) → jr_l (jq_ans num c r Q j) (jt_nw H nu c r L j) := by
  intro j
  induction j with
  | zero => intro _ _; exact h
  | succ j ih =>
    intro hj hO
    rw [jq_ans, jt_nw, (hO (r + j) (by omega)).2]
    refine jr_l_send (ih (by omega) (fun i hi => hO i (by omega))) (jt_nw_le hL j) ?_
    rw [jq_ans_out (Or.inl (by omega)) (by rw [h.1]; exact hL)]
    exact (hO (r + j) (by omega)).1
/-- two ops that write alike -/
def jr_o (a b : jt_O) : Prop := a.1 = b.1 ∧ a.2.1 = b.2.1 ∧ (b.1 ≠ 2 → a.2.2.1 = b.2.2.1)
theorem jr_pf {t : jt_T} {a b : jt_O} (h : jr_o a b) : jt_pf t a = jt_pf t b := by
  obtain ⟨h1, h2, h3⟩ := h
  unfold jt_pf
  rw [h1, h2]
  by_cases e : b.1 = 1
  · rw [if_pos e, if_pos e, h3 (by omega)]
  · rw [if_neg e, if_neg e]
theorem jr_tx {l k : Nat → jt_O} : ∀ n, (∀ i, i < n → jr_o (l i) (k i)) → jt_tx l n = jt_tx k n := by
  intro n
  induction n with
  | zero => intro _; rfl
  | succ n ih =>
    intro h
    show jt_pf (jt_tx l n) (l n) = jt_pf (jt_tx k n) (k n)
    rw [ih (fun i hi => h i (by omega)), jr_pf (h n (by omega))]
/-- a client -/
def jr_c (O : Nat → jt_O) (rv of pn bk lg wh : Nat → Nat) (c : Nat) (C : jt_C) : Prop :=
  (rv c = jc_rv C ∧ of c = 1 - jc_on C ∧ pn c = jc_pn C ∧ bk c = jc_bk C ∧ lg c = jc_ln C) ∧ (∀ i, i < jc_pn C → O (300 + 8 * c + i) = jc_pe C i) ∧
  ∀ i, i < jc_ln C → wh (80 * c + i) = jc_lf C i ∧ jr_o (O (60 + 80 * c + i)) (jc_lo C i) ∧ (O (60 + 80 * c + i)).2.2.2 = (jc_lo C i).2.2.2 ∧ ((jc_lo C i).1 = 2 → jc_lf C i = 1 → (O (60 + 80 * c + i)).2.2.1 = jc_lc C i)
def jr (P : jq_P) (S : jt_S) : Prop :=
  (jp_wr P = js_N S ∧ (∀ i, i < js_N S → jp_O P i = js_H S i ∧ jp_num P i = js_num S i) ∧ (∀ c, c < 3 → jp_au P c = jt_ct (js_H S) c (js_N S)) ∧ jp_dn P = 1 - js_up S ∧ jp_tr P = js_tr S) ∧
  (∀ c, c < 3 → jr_c (jp_O P) (jp_rv P) (jp_of P) (jp_pn P) (jp_bk P) (jp_lg P) (jp_wh P) c (js_cl S c)) ∧ jr_l (jp_O P, jp_ms P, jp_wa P) (js_L S)
theorem jr_ctx {O : Nat → jt_O} {rv of pn bk lg wh : Nat → Nat} {c : Nat} {C : jt_C} (h : jr_c O rv of pn bk lg wh c C) : jt_tx (jq_at O (60 + 80 * c)) (lg c) = jc_tx C := by
  rw [h.1.2.2.2.2]
  exact jr_tx _ (fun i hi => (h.2.2 i hi).2.1)
theorem jr_cOK {O : Nat → jt_O} {rv of pn bk lg wh : Nat → Nat} {c N : Nat} {C : jt_C} {H : Nat → jt_O} (h : jr_c O rv of pn bk lg wh c C) (hC : jt_ci H N c C) : ∀ i, i < lg c → jt_ok (jt_tx (jq_at O (60 + 80 * c)) i).2 (O (60 + 80 * c + i)) := by
  intro i hi
  rw [h.1.2.2.2.2] at hi
  rw [jr_tx (l := jq_at O (60 + 80 * c)) (k := jc_lo C) i (fun j hj => (h.2.2 j (by omega)).2.1)]
  have h1 := (hC.2.1.1 i hi).1
  obtain ⟨e1, e2, e3⟩ := (h.2.2 i hi).2.1
  obtain ⟨o1, o2, o3, o4⟩ := h1
  refine ⟨by rw [e1]; exact o1, fun z => by rw [e2]; exact o2 (e1 ▸ z), fun z => by rw [e2]; exact o3 (e1 ▸ z), fun z => ?_⟩
  have z : (jc_lo C i).1 = 0 := e1 ▸ z
  rw [e2, e3 (by omega)]
  exact o4 z
