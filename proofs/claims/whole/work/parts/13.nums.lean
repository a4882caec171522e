/-! Branches over numbers; an op as one number. -/
theorem jw_lt {a b : Nat} (ha : a < 2 ^ 31) (hb : b < 2 ^ 31) (h : nI a < nI b) : a < b := (nI_ltI ha hb).mp h
theorem jw_nlt {a b : Nat} (ha : a < 2 ^ 31) (hb : b < 2 ^ 31) (h : ¬ nI a < nI b) : b ≤ a := by have := mt (nI_ltI ha hb).mpr h; omega
theorem jw_ge {a b : Nat} (ha : a < 2 ^ 31) (hb : b < 2 ^ 31) (h : nI b ≤ nI a) : b ≤ a := (nI_leI hb ha).mp h
theorem jw_nge {a b : Nat} (ha : a < 2 ^ 31) (hb : b < 2 ^ 31) (h : ¬ nI b ≤ nI a) : a < b := by have := mt (nI_leI hb ha).mpr h; omega
theorem jw_gt {a b : Nat} (ha : a < 2 ^ 31) (hb : b < 2 ^ 31) (h : nI b < nI a) : b < a := (nI_ltI hb ha).mp h
theorem jw_ngt {a b : Nat} (ha : a < 2 ^ 31) (hb : b < 2 ^ 31) (h : ¬ nI b < nI a) : a ≤ b := by have := mt (nI_ltI hb ha).mpr h; omega
theorem jw_le {a b : Nat} (ha : a < 2 ^ 31) (hb : b < 2 ^ 31) (h : nI a ≤ nI b) : a ≤ b := (nI_leI ha hb).mp h
theorem jw_nle {a b : Nat} (ha : a < 2 ^ 31) (hb : b < 2 ^ 31) (h : ¬ nI a ≤ nI b) : b < a := by have := mt (nI_leI ha hb).mpr h; omega
theorem jw_eq {a b : Nat} (ha : a < 2 ^ 31) (hb : b < 2 ^ 31) (h : nI a = nI b) : a = b := (nI_eq ha hb).mp h
theorem jw_ne {a b : Nat} (ha : a < 2 ^ 31) (hb : b < 2 ^ 31) (h : ¬ nI a = nI b) : a ≠ b := fun q => h (by rw [q])
theorem jw_lt0 {a : Nat} (ha : a < 2 ^ 31) (h : nI a < 0) : a < 0 := absurd h (nI_pos ha)
theorem jw_nlt0 {a : Nat} (_ : a < 2 ^ 31) (_ : ¬ nI a < 0) : 0 ≤ a := Nat.zero_le _
theorem jw_ge0 {a : Nat} (_ : a < 2 ^ 31) (_ : 0 ≤ nI a) : 0 ≤ a := Nat.zero_le _
theorem jw_nge0 {a : Nat} (ha : a < 2 ^ 31) (h : ¬ 0 ≤ nI a) : a < 0 := absurd (nI_pos' ha) h
theorem jw_eq0 {a : Nat} (ha : a < 2 ^ 31) (h : nI a = 0) : a = 0 := by
  by_cases e : a = 0
  · exact e
  · exact absurd h (nI_ne0 (by omega) ha)
theorem jw_ne0 {a : Nat} (_ : a < 2 ^ 31) (h : ¬ nI a = 0) : a ≠ 0 := fun e => h (by rw [e]; exact nI_0)
theorem jw_gt0 {a : Nat} (ha : a < 2 ^ 31) (h : 0 < nI a) : 0 < a := by rw [← nI_0] at h; exact jw_lt (by decide) ha h
theorem jw_ngt0 {a : Nat} (ha : a < 2 ^ 31) (h : ¬ 0 < nI a) : a ≤ 0 := by rw [← nI_0] at h; exact jw_nlt (by decide) ha h
theorem jw_le0 {a : Nat} (ha : a < 2 ^ 31) (h : nI a ≤ 0) : a ≤ 0 := by rw [← nI_0] at h; exact jw_le ha (by decide) h
theorem jw_nle0 {a : Nat} (ha : a < 2 ^ 31) (h : ¬ nI a ≤ 0) : 0 < a := by rw [← nI_0] at h; exact jw_nle ha (by decide) h
/-- a truth value as a number -/
def jw_b (b : Bool) : Int32 := if b then nI 1 else nI 0
theorem jw_b0 {b : Bool} (h : jw_b b = 0) : b = false := by
  cases b with
  | false => rfl
  | true => exact absurd h (by decide)
theorem jw_b1 {b : Bool} (h : ¬ jw_b b = 0) : b = true := by
  cases b with
  | true => rfl
  | false => exact absurd (by decide) h
theorem jw_or0 (a b : Nat) : nI a ||| nI b = nI (a ||| b) := by
  apply Int32.toBitVec_inj.mp
  show BitVec.ofNat 32 a ||| BitVec.ofNat 32 b = BitVec.ofNat 32 (a ||| b)
  exact (BitVec.ofNat_or).symm
theorem jw_or {a m p : Nat} (k : Nat) (hp : 2 ^ k = p) (ha : a < p) : nI a ||| nI (p * m) = nI (a + p * m) := by
  subst hp
  rw [jw_or0, Nat.or_comm, ← Nat.two_pow_add_eq_or_of_lt ha, Nat.add_comm]
theorem jw_shl2 {n : Nat} (h : n < 2 ^ 20) : nI n <<< (nI 2 &&& 31) = nI (4 * n) := by rw [pk_shlN _ 2 (by decide) (by omega)]; congr 1; omega
theorem jw_shl4 {n : Nat} (h : n < 2 ^ 20) : nI n <<< (nI 4 &&& 31) = nI (16 * n) := by rw [pk_shlN _ 4 (by decide) (by omega)]; congr 1; omega
theorem jw_shl11 {n : Nat} (h : n < 2 ^ 20) : nI n <<< (nI 11 &&& 31) = nI (2048 * n) := by rw [pk_shlN _ 11 (by decide) (by omega)]; congr 1; omega
/-- an op as the class packs it -/
def jt_pk (k p c s : Nat) : Nat := k + 4 * s + 16 * c + 2048 * p
def jt_po (o : jt_O) : Nat := jt_pk o.1 o.2.1 o.2.2.1 o.2.2.2
/-- its parts are small -/
def jt_sm (o : jt_O) : Prop := o.1 < 4 ∧ o.2.1 < 1000 ∧ o.2.2.1 < 128 ∧ o.2.2.2 < 4
theorem jt_po_lt {o : jt_O} (h : jt_sm o) : jt_po o < 2 ^ 22 := by
  obtain ⟨h1, h2, h3, h4⟩ := h
  unfold jt_po jt_pk
  omega
theorem jt_sm_of {n : Nat} {o : jt_O} (h : jt_ok n o) (hw : jt_wf o) (hn : n < 500) : jt_sm o := by
  obtain ⟨h1, h2, h3, h4⟩ := h
  obtain ⟨w1, w2⟩ := hw
  have h123 : o.1 = 0 ∨ o.1 = 1 ∨ o.1 = 2 := by omega
  refine ⟨by omega, ?_, w1, by omega⟩
  rcases h123 with e | e | e
  · have := (h4 e).1; omega
  · have := h2 e; omega
  · have := h3 e; omega
theorem jw_kind {o : jt_O} (h : jt_sm o) : nI (jt_po o) &&& nI 3 = nI o.1 := by
  have := jt_po_lt h
  obtain ⟨h1, h2, h3, h4⟩ := h
  rw [pk_andN (by omega) 2 (by decide)]
  congr 1
  unfold jt_po jt_pk
  omega
theorem jw_site {o : jt_O} (h : jt_sm o) : (nI (jt_po o) >>> (nI 2 &&& 31)) &&& nI 3 = nI o.2.2.2 := by
  have := jt_po_lt h
  obtain ⟨h1, h2, h3, h4⟩ := h
  rw [pk_shrN (by omega) _ 2 (by decide), pk_andN (by omega) 2 (by decide)]
  congr 1
  unfold jt_po jt_pk
  omega
theorem jw_char {o : jt_O} (h : jt_sm o) : (nI (jt_po o) >>> (nI 4 &&& 31)) &&& nI 127 = nI o.2.2.1 := by
  have := jt_po_lt h
  obtain ⟨h1, h2, h3, h4⟩ := h
  rw [pk_shrN (by omega) _ 4 (by decide), pk_andN (by omega) 7 (by decide)]
  congr 1
  unfold jt_po jt_pk
  omega
theorem jw_pos {o : jt_O} (h : jt_sm o) : nI (jt_po o) >>> (nI 11 &&& 31) = nI o.2.1 := by
  have := jt_po_lt h
  obtain ⟨h1, h2, h3, h4⟩ := h
  rw [pk_shrN (by omega) _ 11 (by decide)]
  congr 1
  unfold jt_po jt_pk
  omega
