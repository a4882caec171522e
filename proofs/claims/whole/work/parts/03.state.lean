/-! The system as numbers: a client, a message, the state, what holds of it. -/
/-- a history that grows at its end -/
theorem jt_le_up {l : Nat → jt_O} {n : Nat} {o : jt_O} {k : Nat} (h : k ≤ n) : jt_le (va_up l n o) k = jt_le l k := by
  unfold jt_le
  rw [jt_tx_eq (l := va_up l n o) (l' := l) (fun i hi => va_up_ne _ _ (by omega))]
theorem jt_ct_up {l : Nat → jt_O} {n : Nat} {o : jt_O} {c k : Nat} (h : k ≤ n) : jt_ct (va_up l n o) c k = jt_ct l c k :=
  jt_ct_eq (fun i hi => va_up_ne _ _ (by omega))
theorem jt_ms_up {l : Nat → jt_O} {n : Nat} {o q : jt_O} {r j : Nat} (h : r + j ≤ n) : jt_ms (va_up l n o) r q j = jt_ms l r q j :=
  jt_ms_eq (fun i hi => va_up_ne _ _ (by omega))
theorem jt_all_up {l : Nat → jt_O} {n : Nat} {o : jt_O} (h : jt_all l n) (ho : jt_ok (jt_le l n) o) (hw : jt_wf o) : jt_all (va_up l n o) (n + 1) := by
  intro k hk
  rw [jt_le_up (by omega)]
  by_cases e : k = n
  · subst e
    rw [va_up_self]
    exact ⟨ho, hw⟩
  · rw [va_up_ne _ _ e]
    exact h k (by omega)
/-- a client: its log (ops, characters, flags: 0 of others, 1 its own, 2 taken back by undo, 3 undone; how many), its pending edits (how many), how many came back, how many ops it knows, whether it is on -/
abbrev jt_C : Type := (Nat → jt_O) × (Nat → Nat) × (Nat → Nat) × Nat × (Nat → jt_O) × Nat × Nat × Nat × Nat
abbrev jc_lo (C : jt_C) : Nat → jt_O := C.1
abbrev jc_lc (C : jt_C) : Nat → Nat := C.2.1
abbrev jc_lf (C : jt_C) : Nat → Nat := C.2.2.1
abbrev jc_ln (C : jt_C) : Nat := C.2.2.2.1
abbrev jc_pe (C : jt_C) : Nat → jt_O := C.2.2.2.2.1
abbrev jc_pn (C : jt_C) : Nat := C.2.2.2.2.2.1
abbrev jc_bk (C : jt_C) : Nat := C.2.2.2.2.2.2.1
abbrev jc_rv (C : jt_C) : Nat := C.2.2.2.2.2.2.2.1
abbrev jc_on (C : jt_C) : Nat := C.2.2.2.2.2.2.2.2
/-- its text -/
abbrev jc_tx (C : jt_C) : jt_T := jt_tx (jc_lo C) (jc_ln C)
/-- a message: kind, client, revision, number, op, how far its mark is off -/
abbrev jt_M : Type := Nat × Nat × Nat × Nat × jt_O × Nat
/-- the line: messages, how many -/
abbrev jt_L : Type := (Nat → jt_M) × Nat
def jt_sd (L : jt_L) (m : jt_M) : jt_L := if L.2 < 30 then (va_up L.1 L.2 m, L.2 + 1) else L
def jt_tk (L : jt_L) (k : Nat) : jt_L := (fun i => if i < k then L.1 i else L.1 (i + 1), L.2 - 1)
/-- the NEWS of the ops r .. r+j-1 to one client -/
def jt_nw (H : Nat → jt_O) (num : Nat → Nat) (c r : Nat) (L : jt_L) : Nat → jt_L
  | 0 => L
  | j + 1 => jt_sd (jt_nw H num c r L j) (2, c, r + j, num (r + j), H (r + j), 0)
/-- the NEWS of one op to the first j clients -/
def jt_na (H : Nat → jt_O) (num : Nat → Nat) (i : Nat) (L : jt_L) : Nat → jt_L
  | 0 => L
  | j + 1 => jt_sd (jt_na H num i L j) (2, j, i, num i, H i, 0)
/-- what a client sends again -/
def jt_sa (c : Nat) (C : jt_C) (L : jt_L) : jt_L :=
  if jc_on C = 0 then L else if jc_pn C = 0 then jt_sd L (1, c, jc_rv C, 0, (0, 0, 0, c), 0) else jt_sd L (0, c, jc_rv C, jc_bk C, jc_pe C 0, 0)
/-- the character that an op brings or takes -/
def jt_ch (t : jt_T) (o : jt_O) : Nat := if o.1 = 1 then o.2.2.1 else if o.1 = 2 then t.1 o.2.1 else 0
/-- an edit made: log and pending edits -/
def jt_mk (C : jt_C) (o : jt_O) (fl : Nat) : jt_C :=
  (va_up (jc_lo C) (jc_ln C) o, va_up (jc_lc C) (jc_ln C) (jt_ch (jc_tx C) o), va_up (jc_lf C) (jc_ln C) fl, jc_ln C + 1, va_up (jc_pe C) (jc_pn C) o, jc_pn C + 1, jc_bk C, jc_rv C, jc_on C)
/-- the news of an op of its own -/
def jt_ow (C : jt_C) : jt_C :=
  (jc_lo C, jc_lc C, jc_lf C, jc_ln C, fun j => jc_pe C (j + 1), jc_pn C - 1, jc_bk C + 1, jc_rv C + 1, jc_on C)
/-- the news of an op of others -/
def jt_ot (C : jt_C) (o : jt_O) : jt_C :=
  (va_up (jc_lo C) (jc_ln C) (jt_oc (jc_pe C) o (jc_pn C)), va_up (jc_lc C) (jc_ln C) (jt_ch (jc_tx C) (jt_oc (jc_pe C) o (jc_pn C))), va_up (jc_lf C) (jc_ln C) 0, jc_ln C + 1,
   fun j => if j < jc_pn C then jt_pp (jc_pe C) o j else jc_pe C j, jc_pn C, jc_bk C, jc_rv C + 1, jc_on C)
/-- what holds of the client c beside the history H of N ops -/
def jt_ci (H : Nat → jt_O) (N c : Nat) (C : jt_C) : Prop :=
  (jc_rv C ≤ N ∧ jc_pn C ≤ 8 ∧ jc_ln C = jc_rv C + jc_pn C ∧ jc_on C ≤ 1) ∧
  (jt_all (jc_lo C) (jc_ln C) ∧ jt_pa (jc_pe C) (jt_le H (jc_rv C)) (jc_pn C) ∧ jt_pl (jc_pe C) (jt_le H (jc_rv C)) (jc_pn C) = jt_le (jc_lo C) (jc_ln C) ∧ ∀ j, j < jc_pn C → (jc_pe C j).2.2.2 = c) ∧
  (jt_ct H c (jc_rv C) = jc_bk C ∧ jt_ct H c N ≤ jc_bk C + (if jc_pn C = 0 then 0 else 1) ∧ ∀ k, jc_rv C ≤ k → k < N → (H k).2.2.2 = c → H k = jt_ms H (jc_rv C) (jc_pe C 0) (k - jc_rv C)) ∧
  (∀ j, j < jc_ln C → jc_lf C j = 1 → (jc_lo C j).1 ≠ 0 ∧ (jc_lo C j).2.2.2 = c ∧ jc_lc C j < 128)
/-- what holds of a message -/
def jt_mi (H : Nat → jt_O) (N : Nat) (num : Nat → Nat) (cl : Nat → jt_C) (m : jt_M) : Prop :=
  (m.1 ≤ 2 ∧ m.2.1 < 3 ∧ m.2.2.2.2.2 < 256 ∧ m.2.2.1 ≤ N) ∧
  (m.1 = 0 → jt_ok (jt_le H m.2.2.1) m.2.2.2.2.1 ∧ jt_wf m.2.2.2.2.1 ∧ m.2.2.2.2.1.2.2.2 = m.2.1 ∧ m.2.2.2.1 ≤ jc_bk (cl m.2.1) ∧
    (m.2.2.2.1 = jc_bk (cl m.2.1) → jc_pn (cl m.2.1) ≠ 0 ∧ m.2.2.1 ≤ jc_rv (cl m.2.1) ∧ jt_ms H m.2.2.1 m.2.2.2.2.1 (jc_rv (cl m.2.1) - m.2.2.1) = jc_pe (cl m.2.1) 0)) ∧
  (m.1 = 2 → m.2.2.1 < N ∧ m.2.2.2.2.1 = H m.2.2.1 ∧ m.2.2.2.1 = num m.2.2.1)
/-- the state: history, how many, numbers, clients, line, whether the server is up, its trip -/
abbrev jt_S : Type := (Nat → jt_O) × Nat × (Nat → Nat) × (Nat → jt_C) × jt_L × Nat × Nat
abbrev js_H (S : jt_S) : Nat → jt_O := S.1
abbrev js_N (S : jt_S) : Nat := S.2.1
abbrev js_num (S : jt_S) : Nat → Nat := S.2.2.1
abbrev js_cl (S : jt_S) : Nat → jt_C := S.2.2.2.1
abbrev js_L (S : jt_S) : jt_L := S.2.2.2.2.1
abbrev js_up (S : jt_S) : Nat := S.2.2.2.2.2.1
abbrev js_tr (S : jt_S) : Nat := S.2.2.2.2.2.2
def jt_inv (S : jt_S) : Prop :=
  (js_N S ≤ 60 ∧ jt_all (js_H S) (js_N S) ∧ (∀ i, i < js_N S → js_num S i < 100) ∧ js_up S ≤ 1 ∧ js_tr S ≤ 2) ∧
  (∀ c, c < 3 → jt_ci (js_H S) (js_N S) c (js_cl S c)) ∧
  ((js_L S).2 ≤ 30 ∧ ∀ k, k < (js_L S).2 → jt_mi (js_H S) (js_N S) (js_num S) (js_cl S) ((js_L S).1 k))
