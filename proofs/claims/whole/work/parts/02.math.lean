/-! Ops, how they are moved, texts and their lengths: numbers alone. An op: (kind, place, character, site). -/
abbrev jt_O : Type := Nat × Nat × Nat × Nat
def jt_mv (a b : jt_O) : jt_O :=
  if a.1 = 0 ∨ b.1 = 0 ∨ a.2.1 < b.2.1 then a
  else if b.1 = 1 then
    (if a.1 = 1 ∧ a.2.1 = b.2.1 ∧ a.2.2.2 < b.2.2.2 then a else (a.1, a.2.1 + 1, a.2.2.1, a.2.2.2))
  else if b.2.1 < a.2.1 then (a.1, a.2.1 - 1, a.2.2.1, a.2.2.2)
  else if a.1 = 1 then a else (0, 0, 0, a.2.2.2)
/-- the length behind an op -/
def jt_ln (n : Nat) (o : jt_O) : Nat := if o.1 = 1 then n + 1 else if o.1 = 2 then n - 1 else n
/-- an op that can be done to a text of length n -/
def jt_ok (n : Nat) (o : jt_O) : Prop := o.1 ≤ 2 ∧ (o.1 = 1 → o.2.1 ≤ n) ∧ (o.1 = 2 → o.2.1 < n) ∧ (o.1 = 0 → o.2.1 = 0 ∧ o.2.2.1 = 0)
/-- its character and its site are small -/
def jt_wf (o : jt_O) : Prop := o.2.2.1 < 128 ∧ o.2.2.2 < 3
theorem jt_mv_ok {n : Nat} {a b : jt_O} (ha : jt_ok n a) (hb : jt_ok n b) : jt_ok (jt_ln n b) (jt_mv a b) := by
  obtain ⟨ka, pa, ca, sa⟩ := a
  obtain ⟨kb, pb, cb, sb⟩ := b
  obtain ⟨a1, a2, a3, a4⟩ := ha
  obtain ⟨b1, b2, b3, b4⟩ := hb
  dsimp only at a1 a2 a3 a4 b1 b2 b3 b4
  unfold jt_mv jt_ln
  dsimp only
  by_cases h0 : ka = 0 ∨ kb = 0 ∨ pa < pb
  · rw [if_pos h0]
    refine ⟨a1, fun h => ?_, fun h => ?_, a4⟩ <;> dsimp only at h ⊢ <;> (repeat' split) <;> omega
  · rw [if_neg h0]
    by_cases h1 : kb = 1
    · rw [if_pos h1, if_pos h1]
      split
      · refine ⟨a1, fun h => ?_, fun h => ?_, a4⟩ <;> dsimp only at h ⊢ <;> omega
      · refine ⟨a1, fun h => ?_, fun h => ?_, fun h => ?_⟩ <;> dsimp only at h ⊢ <;> omega
    · rw [if_neg h1, if_neg h1, if_pos (show kb = 2 by omega)]
      by_cases h2 : pb < pa
      · rw [if_pos h2]
        refine ⟨a1, fun h => ?_, fun h => ?_, fun h => ?_⟩ <;> dsimp only at h ⊢ <;> omega
      · rw [if_neg h2]
        by_cases h3 : ka = 1
        · rw [if_pos h3]
          refine ⟨a1, fun h => ?_, fun h => ?_, a4⟩ <;> dsimp only at h ⊢ <;> omega
        · rw [if_neg h3]
          exact ⟨Nat.zero_le _, fun h => absurd (show 0 = 1 from h) (by decide), fun h => absurd (show 0 = 2 from h) (by decide), fun _ => ⟨rfl, rfl⟩⟩
/-- over two roads the length is the same -/
theorem jt_mv_ln {n : Nat} {a b : jt_O} (ha : jt_ok n a) (hb : jt_ok n b) : jt_ln (jt_ln n b) (jt_mv a b) = jt_ln (jt_ln n a) (jt_mv b a) := by
  obtain ⟨ka, pa, ca, sa⟩ := a
  obtain ⟨kb, pb, cb, sb⟩ := b
  obtain ⟨a1, a2, a3, a4⟩ := ha
  obtain ⟨b1, b2, b3, b4⟩ := hb
  dsimp only at a1 a2 a3 a4 b1 b2 b3 b4
  have ka3 : ka = 0 ∨ ka = 1 ∨ ka = 2 := by omega
  have kb3 : kb = 0 ∨ kb = 1 ∨ kb = 2 := by omega
  have tri : pa < pb ∨ pa = pb ∨ pb < pa := by omega
  have key : ∀ (x y : jt_O), (jt_mv x y).1 = x.1 ∨ (jt_mv x y).1 = 0 := fun x y => by
    unfold jt_mv
    repeat' split
    all_goals first | exact Or.inl rfl | exact Or.inr rfl
  rcases ka3 with rfl | rfl | rfl <;> rcases kb3 with rfl | rfl | rfl <;> rcases tri with h | rfl | h <;>
    simp [jt_ln, jt_mv, *, Nat.lt_irrefl, Nat.lt_asymm, Nat.not_lt_of_lt] <;> (repeat' split) <;> (try simp) <;> omega
theorem jt_mv_wf {a b : jt_O} (ha : jt_wf a) : jt_wf (jt_mv a b) := by
  obtain ⟨h1, h2⟩ := ha
  unfold jt_mv
  repeat' split
  all_goals first | exact ⟨h1, h2⟩ | exact ⟨(by decide : 0 < 128), h2⟩
theorem jt_mv_site (a b : jt_O) : (jt_mv a b).2.2.2 = a.2.2.2 := by
  unfold jt_mv
  repeat' split
  all_goals rfl
/-- a text: its characters, its length; an op done to it -/
abbrev jt_T : Type := (Nat → Nat) × Nat
def jt_pf (t : jt_T) (o : jt_O) : jt_T :=
  if o.1 = 1 then (fun i => if i < o.2.1 then t.1 i else if i = o.2.1 then o.2.2.1 else t.1 (i - 1), t.2 + 1)
  else if o.1 = 2 then (fun i => if i < o.2.1 then t.1 i else t.1 (i + 1), t.2 - 1)
  else t
def jt_tx (l : Nat → jt_O) : Nat → jt_T
  | 0 => (fun _ => 0, 0)
  | k + 1 => jt_pf (jt_tx l k) (l k)
/-- its length behind k ops -/
def jt_le (l : Nat → jt_O) (k : Nat) : Nat := (jt_tx l k).2
theorem jt_pf_ln (t : jt_T) (o : jt_O) : (jt_pf t o).2 = jt_ln t.2 o := by
  unfold jt_pf jt_ln
  repeat' split
  all_goals rfl
theorem jt_le_0 (l : Nat → jt_O) : jt_le l 0 = 0 := rfl
theorem jt_le_s (l : Nat → jt_O) (k : Nat) : jt_le l (k + 1) = jt_ln (jt_le l k) (l k) := jt_pf_ln _ _
theorem jt_ln_le (n : Nat) (o : jt_O) : jt_ln n o ≤ n + 1 := by
  unfold jt_ln
  repeat' split
  all_goals omega
theorem jt_le_le (l : Nat → jt_O) (k : Nat) : jt_le l k ≤ k := by
  induction k with
  | zero => exact Nat.le_refl _
  | succ k ih => rw [jt_le_s]; have := jt_ln_le (jt_le l k) (l k); omega
theorem jt_tx_eq {l l' : Nat → jt_O} {k : Nat} (h : ∀ i, i < k → l i = l' i) : jt_tx l k = jt_tx l' k := by
  induction k with
  | zero => rfl
  | succ k ih => rw [jt_tx, jt_tx, ih (fun i hi => h i (by omega)), h k (by omega)]
/-- all ops of a log can be done one after the other -/
def jt_all (l : Nat → jt_O) (n : Nat) : Prop := ∀ k, k < n → jt_ok (jt_le l k) (l k) ∧ jt_wf (l k)
/-- the characters of a text are small -/
theorem jt_tx_ch {l : Nat → jt_O} {n : Nat} (h : jt_all l n) : ∀ i, i < jt_le l n → (jt_tx l n).1 i < 128 := by
  induction n with
  | zero => intro i hi; exact absurd hi (Nat.not_lt_zero _)
  | succ n ih =>
    intro i hi
    have ih := ih (fun k hk => h k (by omega))
    obtain ⟨⟨o1, o2, o3, -⟩, w1, -⟩ := h n (by omega)
    rw [jt_le_s] at hi
    unfold jt_ln at hi
    show (jt_pf (jt_tx l n) (l n)).1 i < 128
    unfold jt_pf
    by_cases h1 : (l n).1 = 1
    · rw [if_pos h1] at hi ⊢
      have o2 := o2 h1
      dsimp only
      split
      · exact ih i (by omega)
      · split
        · exact w1
        · exact ih (i - 1) (by omega)
    · rw [if_neg h1] at hi ⊢
      by_cases h2 : (l n).1 = 2
      · rw [if_pos h2] at hi ⊢
        have o3 := o3 h2
        dsimp only
        split
        · exact ih i (by omega)
        · exact ih (i + 1) (by omega)
      · rw [if_neg h2] at hi ⊢
        exact ih i hi
/-- an op moved over the ops r .. k-1 of a log -/
def jt_ms (l : Nat → jt_O) (r : Nat) (o : jt_O) : Nat → jt_O
  | 0 => o
  | j + 1 => jt_mv (jt_ms l r o j) (l (r + j))
theorem jt_ms_ok {l : Nat → jt_O} {n r : Nat} {o : jt_O} (hl : jt_all l n) (ho : jt_ok (jt_le l r) o) : ∀ j, r + j ≤ n → jt_ok (jt_le l (r + j)) (jt_ms l r o j) := by
  intro j
  induction j with
  | zero => intro _; exact ho
  | succ j ih =>
    intro hj
    rw [show r + (j + 1) = (r + j) + 1 by omega, jt_le_s]
    exact jt_mv_ok (ih (by omega)) (hl (r + j) (by omega)).1
theorem jt_ms_wf {l : Nat → jt_O} {r : Nat} {o : jt_O} (ho : jt_wf o) : ∀ j, jt_wf (jt_ms l r o j) := by
  intro j
  induction j with
  | zero => exact ho
  | succ j ih => exact jt_mv_wf ih
theorem jt_ms_site {l : Nat → jt_O} {r : Nat} {o : jt_O} : ∀ j, (jt_ms l r o j).2.2.2 = o.2.2.2 := by
  intro j
  induction j with
  | zero => rfl
  | succ j ih => rw [jt_ms, jt_mv_site, ih]
theorem jt_ms_add {l : Nat → jt_O} {r : Nat} {o : jt_O} (i j : Nat) : jt_ms l r o (i + j) = jt_ms l (r + i) (jt_ms l r o i) j := by
  induction j with
  | zero => rfl
  | succ j ih => rw [show i + (j + 1) = (i + j) + 1 by omega, jt_ms, jt_ms, ih, show r + (i + j) = r + i + j by omega]
theorem jt_ms_eq {l l' : Nat → jt_O} {r : Nat} {o : jt_O} {j : Nat} (h : ∀ i, i < j → l (r + i) = l' (r + i)) : jt_ms l r o j = jt_ms l' r o j := by
  induction j with
  | zero => rfl
  | succ j ih => rw [jt_ms, jt_ms, ih (fun i hi => h i (by omega)), h j (by omega)]
/-- how many of the first k ops are of the site c -/
def jt_ct (l : Nat → jt_O) (c : Nat) : Nat → Nat
  | 0 => 0
  | k + 1 => if (l k).2.2.2 = c then jt_ct l c k + 1 else jt_ct l c k
theorem jt_ct_mono {l : Nat → jt_O} {c i : Nat} (j : Nat) : jt_ct l c i ≤ jt_ct l c (i + j) := by
  induction j with
  | zero => exact Nat.le_refl _
  | succ j ih =>
    rw [show i + (j + 1) = (i + j) + 1 from rfl, jt_ct]
    split <;> omega
theorem jt_ct_le {l : Nat → jt_O} {c i k : Nat} (h : i ≤ k) : jt_ct l c i ≤ jt_ct l c k := by
  have := jt_ct_mono (l := l) (c := c) (i := i) (k - i)
  rwa [show i + (k - i) = k by omega] at this
theorem jt_ct_eq {l l' : Nat → jt_O} {c k : Nat} (h : ∀ i, i < k → l i = l' i) : jt_ct l c k = jt_ct l' c k := by
  induction k with
  | zero => rfl
  | succ k ih => rw [jt_ct, jt_ct, ih (fun i hi => h i (by omega)), h k (by omega)]
/-- the pending edits, an op of others over them: what becomes of it, what becomes of them -/
def jt_oc (p : Nat → jt_O) (o : jt_O) : Nat → jt_O
  | 0 => o
  | j + 1 => jt_mv (jt_oc p o j) (p j)
def jt_pp (p : Nat → jt_O) (o : jt_O) : Nat → jt_O := fun j => jt_mv (p j) (jt_oc p o j)
/-- the length behind j pending edits, from n -/
def jt_pl (p : Nat → jt_O) (n : Nat) : Nat → Nat
  | 0 => n
  | j + 1 => jt_ln (jt_pl p n j) (p j)
/-- pending edits that can be done one after the other, from length n -/
def jt_pa (p : Nat → jt_O) (n m : Nat) : Prop := ∀ j, j < m → jt_ok (jt_pl p n j) (p j) ∧ jt_wf (p j)
theorem jt_oc_ok {p : Nat → jt_O} {o : jt_O} {n m : Nat} (hp : jt_pa p n m) (ho : jt_ok n o) : ∀ j, j ≤ m → jt_ok (jt_pl p n j) (jt_oc p o j) ∧ jt_pl (jt_pp p o) (jt_ln n o) j = jt_ln (jt_pl p n j) (jt_oc p o j) := by
  intro j
  induction j with
  | zero => intro _; exact ⟨ho, rfl⟩
  | succ j ih =>
    intro hj
    obtain ⟨h1, h2⟩ := ih (by omega)
    have h3 := (hp j (by omega)).1
    refine ⟨jt_mv_ok h1 h3, ?_⟩
    show jt_ln (jt_pl (jt_pp p o) (jt_ln n o) j) (jt_mv (p j) (jt_oc p o j)) = jt_ln (jt_ln (jt_pl p n j) (p j)) (jt_mv (jt_oc p o j) (p j))
    rw [h2]
    exact jt_mv_ln h3 h1
theorem jt_pp_pa {p : Nat → jt_O} {o : jt_O} {n m : Nat} (hp : jt_pa p n m) (ho : jt_ok n o) : jt_pa (jt_pp p o) (jt_ln n o) m := by
  intro j hj
  obtain ⟨h1, h2⟩ := jt_oc_ok hp ho j (by omega)
  rw [h2]
  exact ⟨jt_mv_ok (hp j hj).1 h1, jt_mv_wf (hp j hj).2⟩
theorem jt_oc_wf {p : Nat → jt_O} {o : jt_O} (ho : jt_wf o) : ∀ j, jt_wf (jt_oc p o j) := by
  intro j
  induction j with
  | zero => exact ho
  | succ j ih => exact jt_mv_wf ih
theorem jt_oc_site {p : Nat → jt_O} {o : jt_O} : ∀ j, (jt_oc p o j).2.2.2 = o.2.2.2 := by
  intro j
  induction j with
  | zero => rfl
  | succ j ih => rw [jt_oc, jt_mv_site, ih]
