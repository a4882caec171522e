/-! Cases of the arguments; what the two answer side by side. -/
theorem jL_lt0 {v : Int32} : v < 0 ↔ v.toInt < 0 := by rw [Int32.lt_iff_toInt_lt]; rfl
theorem jL_ltn {v : Int32} {n : Nat} (hn : n < 2 ^ 31) : v < nI n ↔ v.toInt < n := by rw [Int32.lt_iff_toInt_lt, nI_toInt hn]
theorem jL_nlt {v : Int32} {n : Nat} (hn : n < 2 ^ 31) : nI n < v ↔ (n : Int) < v.toInt := by rw [Int32.lt_iff_toInt_lt, nI_toInt hn]
theorem jL_len {v : Int32} {n : Nat} (hn : n < 2 ^ 31) : v ≤ nI n ↔ v.toInt ≤ n := by rw [Int32.le_iff_toInt_le, nI_toInt hn]
theorem jL_nle {v : Int32} {n : Nat} (hn : n < 2 ^ 31) : nI n ≤ v ↔ (n : Int) ≤ v.toInt := by rw [Int32.le_iff_toInt_le, nI_toInt hn]
theorem jL_eqn {v : Int32} {n : Nat} (hn : n < 2 ^ 31) : v = nI n ↔ v.toInt = n := by rw [← Int32.toInt_inj, nI_toInt hn]
/-- an index: outside, in all the words of both sides, or a number -/
theorem jL_ixd (v : Int32) (n : Nat) (hn : n < 2 ^ 31) : (¬ (¬ v < 0 ∧ ¬ nI n ≤ v) ∧ ¬ (¬ v < 0 ∧ v < nI n) ∧ (v < 0 ∨ ¬ v < nI n)) ∨ ∃ k, k < n ∧ v = nI k := by
  rcases pk_ix v hn with h | h | h
  · exact Or.inl ⟨fun z => z.1 h, fun z => z.1 h, Or.inl h⟩
  · have h1 : ¬ v < nI n := fun z => by rw [jL_ltn hn] at z; rw [jL_nle hn] at h; omega
    exact Or.inl ⟨fun z => z.2 h, fun z => h1 z.2, Or.inr h1⟩
  · exact Or.inr h
theorem jL_led (v : Int32) (n : Nat) (hn : n + 1 < 2 ^ 31) : (v < 0 ∨ ¬ v ≤ nI n) ∨ ∃ k, k ≤ n ∧ v = nI k := by
  rcases pk_ix v (n := n + 1) hn with h | h | ⟨k, h, e⟩
  · exact Or.inl (Or.inl h)
  · refine Or.inl (Or.inr (fun z => ?_))
    rw [jL_len (by omega)] at z
    rw [jL_nle (by omega)] at h
    omega
  · exact Or.inr ⟨k, by omega, e⟩
theorem jL_cd (v : Int32) : (¬ (¬ v < 0 ∧ ¬ nI 3 ≤ v) ∧ ¬ (¬ v < 0 ∧ ¬ nI 2 < v)) ∨ ∃ c, c < 3 ∧ v = nI c := by
  rcases pk_ix v (n := 3) (by decide) with h | h | h
  · exact Or.inl ⟨fun z => z.1 h, fun z => z.1 h⟩
  · refine Or.inl ⟨fun z => z.2 h, fun z => z.2 ?_⟩
    rw [jL_nle (by decide)] at h
    rw [jL_nlt (by decide)]
    omega
  · exact Or.inr h
theorem jL_sd (v : Int32) : (¬ ((¬ v < 0 ∧ ¬ nI 3 ≤ v) ∨ v = nI 3) ∧ (v < 0 ∨ nI 3 < v) ∧ ¬ v = nI 3 ∧ ¬ (¬ v < 0 ∧ ¬ nI 2 < v) ∧ (v < 0 ∨ ¬ v ≤ nI 3)) ∨ (∃ c, c < 3 ∧ v = nI c) ∨ v = nI 3 := by
  rcases pk_ix v (n := 4) (by decide) with h | h | ⟨k, h, e⟩
  · have h3 : ¬ v = nI 3 := fun z => by rw [jL_eqn (by decide)] at z; rw [jL_lt0] at h; omega
    exact Or.inl ⟨fun z => z.elim (fun z => z.1 h) h3, Or.inl h, h3, fun z => z.1 h, Or.inl h⟩
  · have h3 : ¬ v = nI 3 := fun z => by rw [jL_eqn (by decide)] at z; rw [jL_nle (by decide)] at h; omega
    have h4 : nI 3 ≤ v := by rw [jL_nle (by decide)] at h ⊢; omega
    have h5 : nI 2 < v := by rw [jL_nle (by decide)] at h; rw [jL_nlt (by decide)]; omega
    have h6 : nI 3 < v := by rw [jL_nle (by decide)] at h; rw [jL_nlt (by decide)]; omega
    have h7 : ¬ v ≤ nI 3 := fun z => by rw [jL_nle (by decide)] at h; rw [jL_len (by decide)] at z; omega
    exact Or.inl ⟨fun z => z.elim (fun z => z.2 h4) h3, Or.inr h6, h3, fun z => z.2 h5, Or.inr h7⟩
  · by_cases h3 : k = 3
    · exact Or.inr (Or.inr (by rw [e, h3]))
    · exact Or.inr (Or.inl ⟨k, by omega, e⟩)
theorem jL_rgd (v : Int32) : (v < nI 32 ∨ ¬ v ≤ nI 126) ∨ ∃ k, (32 ≤ k ∧ k ≤ 126) ∧ v = nI k := by
  rcases pk_ix v (n := 127) (by decide) with h | h | ⟨k, h, e⟩
  · refine Or.inl (Or.inl ?_)
    rw [jL_lt0] at h
    rw [jL_ltn (by decide)]
    omega
  · refine Or.inl (Or.inr (fun z => ?_))
    rw [jL_len (by decide)] at z
    rw [jL_nle (by decide)] at h
    omega
  · by_cases h2 : k < 32
    · refine Or.inl (Or.inl ?_)
      rw [e]
      exact nI_lt h2 (by decide)
    · exact Or.inr ⟨k, ⟨by omega, by omega⟩, e⟩
theorem jL_trd (v : Int32) : (¬ (¬ v < 0 ∧ v ≤ nI 2) ∧ (v < 0 ∨ ¬ v ≤ nI 2)) ∨ ∃ k, k < 3 ∧ v = nI k := by
  rcases jL_led v 2 (by decide) with h | ⟨k, h, e⟩
  · exact Or.inl ⟨fun z => h.elim z.1 (fun h => h z.2), h⟩
  · exact Or.inr ⟨k, by omega, e⟩
/-! the marks of the log -/
theorem jL_vup {h : Nat → Nat} {v : Nat} (hh : ∀ i, h i < 4) (hv : v < 4) (k : Nat) : ∀ i, va_up h k v i < 4 := fun i => by
  by_cases e : i = k
  · rw [e, va_up_self]; exact hv
  · rw [va_up_ne _ _ e]; exact hh i
theorem jL_fl {S S' : jt_S} {c : Nat} (h : ∀ d, d < 3 → ∀ i, jc_lf (js_cl S d) i < 4) (hcl : ∀ d, d ≠ c → js_cl S' d = js_cl S d) (hc : ∀ i, jc_lf (js_cl S' c) i < 4) : ∀ d, d < 3 → ∀ i, jc_lf (js_cl S' d) i < 4 := fun d hd => by
  by_cases e : d = c
  · rw [e]; exact hc
  · rw [hcl d e]; exact h d hd
theorem jL_inv_mk {S : jt_S} {c : Nat} {o : jt_O} {fl : Nat} (h : jL_inv S) (hc : c < 3) (hp : jc_pn (js_cl S c) < 8) (ho : jt_ok (jc_tx (js_cl S c)).2 o) (hw : jt_wf o) (hs : o.2.2.2 = c) (hf : fl = 1 → o.1 ≠ 0) (hfl : fl < 4) : jL_inv (jt_s_mk S c o fl) :=
  ⟨jt_inv_mk h.1 hc hp ho hw hs hf, jL_fl (c := c) h.2 (fun d e => va_up_ne _ _ e) (by
    show ∀ i, jc_lf (va_up (js_cl S) c (jt_mk (js_cl S c) o fl) c) i < 4
    rw [va_up_self]
    exact jL_vup (h.2 c hc) hfl _)⟩
theorem jL_inv_ud {S : jt_S} {c j : Nat} (h : jL_inv S) (hc : c < 3) : jL_inv (jt_s_ud S c j) :=
  ⟨jt_inv_ud h.1, jL_fl (c := c) h.2 (fun d e => va_up_ne _ _ e) (by
    show ∀ i, jc_lf (va_up (js_cl S) c (jt_ud (js_cl S c) j) c) i < 4
    rw [va_up_self]
    exact jL_vup (h.2 c hc) (by decide) _)⟩
theorem jL_inv_cn {S : jt_S} {c b : Nat} (h : jL_inv S) (hc : c < 3) (hb : b ≤ 1) : jL_inv (jt_s_cn S c b) :=
  ⟨jt_inv_cn h.1 hc hb, jL_fl (c := c) h.2 (fun d e => va_up_ne _ _ e) (by
    show ∀ i, jc_lf (va_up (js_cl S) c (jt_cn (js_cl S c) b) c) i < 4
    rw [va_up_self]
    exact h.2 c hc)⟩
theorem jL_inv_dl {S : jt_S} {k : Nat} (h : jL_inv S) (hk : k < (js_L S).2) : jL_inv (jt_s_dl S k) := by
  have hc : ((js_L S).1 k).2.1 < 3 := (h.1.2.2.2 k hk).1.2.1
  refine ⟨jt_inv_dl h.1 hk, jL_fl (c := ((js_L S).1 k).2.1) h.2 (fun d e => jL_dln rfl e) ?_⟩
  rw [jL_dls rfl]
  have h0 := h.2 _ hc
  unfold jt_dc
  split
  · exact h0
  · split
    · unfold jt_nc
      split
      · exact h0
      · split
        · exact h0
        · exact jL_vup h0 (by decide) _
    · exact h0
theorem jL_upx {P : jq_P} {S : jt_S} {u t d r : Nat} (h : jr P S) (hd : d = 1 - u) (hr : r = t) : jr (jp_O P, jp_num P, jp_au P, jp_rv P, jp_of P, jp_pn P, jp_bk P, jp_lg P, jp_wh P, jp_ms P, jp_wr P, d, r, jp_wa P) (jt_s_up S u t) := by
  subst hd; subst hr; exact jr_up h
/-- an op moved keeps its kind, or does nothing -/
theorem jL_mvk (a b : jt_O) : (jt_mv a b).1 = a.1 ∨ (jt_mv a b).1 = 0 := by
  unfold jt_mv
  repeat' split
  all_goals first | exact Or.inl rfl | exact Or.inr rfl
theorem jL_msk {l : Nat → jt_O} {r : Nat} {o : jt_O} : ∀ j, (jt_ms l r o j).1 = o.1 ∨ (jt_ms l r o j).1 = 0 := by
  intro j
  induction j with
  | zero => exact Or.inl rfl
  | succ j ih =>
    rw [jt_ms]
    rcases jL_mvk (jt_ms l r o j) (l (r + j)) with h | h
    · rw [h]; exact ih
    · exact Or.inr h
/-- the pairs: both answer alike, and both states stay beside each other -/
def jL_A (l : Launch) (D : va_G) (x : Nat) (f ad : Nat → Nat) (cI cZ cG cC : ClassId) (xm : Nat) (g : Nat → Nat) (yJ : MethodName) (wJ : List Cond) (yM : MethodName) (wM : List Cond) (av : List Value) (σ : jL_T) (τ : jL_U) : Prop :=
  ∃ (r : Int32) (S' : jt_S), jL_XM l D x f ad cI cZ cG cC 8 160 yJ wJ av σ (jL_po r S') ∧ jL_MM l D xm g cI cZ yM wM av τ (fun r' t => r' = r ∧ jr t.1 S')
def jL_MV (l : Launch) (D : va_G) (xm : Nat) (g : Nat → Nat) (cI cZ : ClassId) (y : MethodName) (w : List Cond) (av : List Value) (τ : jL_U) (post : jL_U → Prop) : Prop :=
  ∃ rm : Room, rm.cells = 0 ∧ rm.slots = 0 ∧ rm.frames ≤ 8 ∧ rm.locals ≤ 160 ∧ ∀ sz, Met l y w rm (jw_C (.ref xm :: av) D jw_cl (jL_MW xm g cI cZ τ) [(cI, .int), (cZ, .boolean)] sz) (va_Qv post (jw_B D jw_cl (va_A (jL_MW xm g cI cZ τ) sz) (jL_MW xm g cI cZ)) (va_A (jL_MW xm g cI cZ τ) sz)) 0 0 (va_A (jL_MW xm g cI cZ τ) sz)
theorem jL_ofV {l : Launch} {D : va_G} {xm : Nat} {g : Nat → Nat} {cI cZ : ClassId} {y : MethodName} {w : List Cond} {av : List Value} {τ : jL_U} {rm : Room} {S : Type} {post : S → Prop} {post' : jL_U → Prop} {w1 : S → va_W} (hM : ∀ sz, Met l y w rm (jw_C (.ref xm :: av) D jw_cl (jL_MW xm g cI cZ τ) [(cI, .int), (cZ, .boolean)] sz) (va_Qv post (jw_B D jw_cl (va_A (jL_MW xm g cI cZ τ) sz) w1) (va_A (jL_MW xm g cI cZ τ) sz)) 0 0 (va_A (jL_MW xm g cI cZ τ) sz)) (h1 : rm.cells = 0) (h2 : rm.slots = 0) (h3 : rm.frames ≤ 8) (h4 : rm.locals ≤ 160) (hw : ∀ u, post u → ∃ t : jL_U, post' t ∧ w1 u = jL_MW xm g cI cZ t) : jL_MV l D xm g cI cZ y w av τ post' :=
  ⟨rm, h1, h2, h3, h4, fun sz => jL_reV (hM sz) hw⟩
/-- the law's wrappers: one that throws, one that answers -/
def jL_WT (l : Launch) (D : va_G) (x : Nat) (f ad : Nat → Nat) (cI cZ cG cC : ClassId) (y : MethodName) (w : List Cond) (av : List Value) (σ : jL_T) (k : Nat) : Prop :=
  ∃ lo, lo ≤ 160 ∧ Met l y w ({ frames := 7, cells := 1, slots := 6, locals := lo }) (jT_WP av x [.ref (f 1), .ref (f 26), .ref (f 31)] D (jL_XW x f ad cI cZ cG cC σ) (jL_ty cI cZ cG cC)) (jT_WQ (nI k)) 1 6 (fun _ => False)
def jL_WS (l : Launch) (D : va_G) (x : Nat) (f ad : Nat → Nat) (cI cZ cG cC : ClassId) (oo : Nat) (cJ : ClassId) (y : MethodName) (w : List Cond) (av : List Value) (σ : jL_T) (post : Int32 → jL_T → Prop) : Prop :=
  ∃ rm : Room, rm.cells = 0 ∧ rm.slots = 0 ∧ rm.frames ≤ 8 ∧ rm.locals ≤ 160 ∧ ∀ (fo : Nat → Int64) (sz : Nat), Met l y w rm (jw_C av D jw_cl ((oo, .inl (cJ, 1, .inr (.inl fo))) :: jL_XW x f ad cI cZ cG cC σ) ((cJ, .long) :: jL_ty cI cZ cG cC) sz) (va_Qi (fun (q : Int32) (u : Int32 × jL_T) => q = nI 0 ∧ post u.1 u.2) (jw_B D jw_cl (va_A ((oo, .inl (cJ, 1, .inr (.inl fo))) :: jL_XW x f ad cI cZ cG cC σ) sz) (fun u => (oo, .inl (cJ, 1, .inr (.inl (vp_updL fo 0 (u.1).toInt64)))) :: jL_XW x f ad cI cZ cG cC u.2)) (va_A ((oo, .inl (cJ, 1, .inr (.inl fo))) :: jL_XW x f ad cI cZ cG cC σ) sz)) 0 0 (va_A ((oo, .inl (cJ, 1, .inr (.inl fo))) :: jL_XW x f ad cI cZ cG cC σ) sz)
def jL_B (l : Launch) (D : va_G) (x : Nat) (f ad : Nat → Nat) (cI cZ cG cC : ClassId) (xm : Nat) (g : Nat → Nat) (oo : Nat) (cJ : ClassId) (yW : MethodName) (wW : List Cond) (aw : List Value) (yM : MethodName) (wM : List Cond) (av : List Value) (σ : jL_T) (τ : jL_U) : Prop :=
  (∃ k, 1 ≤ k ∧ k ≤ 3 ∧ jL_WT l D x f ad cI cZ cG cC yW wW aw σ k ∧ jL_MM l D xm g cI cZ yM wM av τ (fun _ t => jr t.1 σ.1 ∧ t.2.2.2 = nI k)) ∨
  ∃ (r : Int32) (S' : jt_S), jL_WS l D x f ad cI cZ cG cC oo cJ yW wW aw σ (jL_po r S') ∧ jL_MM l D xm g cI cZ yM wM av τ (fun r' t => r' = r ∧ jr t.1 S' ∧ t.2.2.2 = nI 0)
theorem jL_ws_insert {l : Launch} {D : va_G} {x : Nat} {f ad : Nat → Nat} {cI cZ cG cC : ClassId} {oo : Nat} {cJ : ClassId} {σ : jL_T} {v1 v2 v3 : Int32} {post : Int32 → jL_T → Prop} (h : jL_XM l D x f ad cI cZ cG cC 5 110 y_J_insert w_J_insert [.int v1, .int v2, .int v3] σ post) : jL_WS l D x f ad cI cZ cG cC oo cJ y_W_insert ww_insert [.ref x, .int v1, .int v2, .int v3, .ref oo] σ post := by
  obtain ⟨rm, h1, h2, h3, h4, h5⟩ := h
  exact ⟨({ frames := 6, cells := 0, slots := 0, locals := 134 } : Room), rfl, rfl, (Nat.le_of_ble_eq_true rfl), (Nat.le_of_ble_eq_true rfl), fun fo sz => m_W_insert_y l D sz x oo [.ref (f 1), .ref (f 26), .ref (f 31)] v1 v2 v3 (jL_XW x f ad cI cZ cG cC σ) (jL_ty cI cZ cG cC) cJ fo rfl (jL_XW x f ad cI cZ cG cC) post rm h1 h2 h3 h4 h5⟩
theorem jL_wt_insert_1 {l : Launch} {D : va_G} {x : Nat} {f ad : Nat → Nat} {cI cZ cG cC : ClassId} {oo : Nat} {σ : jL_T} {v1 v2 v3 : Int32} (h : jT_Met l y_J_insert w_J_insert ({ frames := 6, cells := 1, slots := 6, locals := 81 }) (jT_P (.ref x :: [.int v1, .int v2, .int v3]) D jw_cl (jL_XW x f ad cI cZ cG cC σ) (jL_ty cI cZ cG cC)) "java/lang/IllegalArgumentException") : jL_WT l D x f ad cI cZ cG cC y_W_insert ww_insert [.ref x, .int v1, .int v2, .int v3, .ref oo] σ 1 := ⟨105, by decide, m_W_insert_t1 l D x oo [.ref (f 1), .ref (f 26), .ref (f 31)] v1 v2 v3 (jL_XW x f ad cI cZ cG cC σ) (jL_ty cI cZ cG cC) h⟩
theorem jL_wt_insert_2 {l : Launch} {D : va_G} {x : Nat} {f ad : Nat → Nat} {cI cZ cG cC : ClassId} {oo : Nat} {σ : jL_T} {v1 v2 v3 : Int32} (h : jT_Met l y_J_insert w_J_insert ({ frames := 6, cells := 1, slots := 6, locals := 81 }) (jT_P (.ref x :: [.int v1, .int v2, .int v3]) D jw_cl (jL_XW x f ad cI cZ cG cC σ) (jL_ty cI cZ cG cC)) "java/lang/IndexOutOfBoundsException") : jL_WT l D x f ad cI cZ cG cC y_W_insert ww_insert [.ref x, .int v1, .int v2, .int v3, .ref oo] σ 2 := ⟨105, by decide, m_W_insert_t2 l D x oo [.ref (f 1), .ref (f 26), .ref (f 31)] v1 v2 v3 (jL_XW x f ad cI cZ cG cC σ) (jL_ty cI cZ cG cC) h⟩
theorem jL_wt_insert_3 {l : Launch} {D : va_G} {x : Nat} {f ad : Nat → Nat} {cI cZ cG cC : ClassId} {oo : Nat} {σ : jL_T} {v1 v2 v3 : Int32} (h : jT_Met l y_J_insert w_J_insert ({ frames := 6, cells := 1, slots := 6, locals := 81 }) (jT_P (.ref x :: [.int v1, .int v2, .int v3]) D jw_cl (jL_XW x f ad cI cZ cG cC σ) (jL_ty cI cZ cG cC)) "java/lang/IllegalStateException") : jL_WT l D x f ad cI cZ cG cC y_W_insert ww_insert [.ref x, .int v1, .int v2, .int v3, .ref oo] σ 3 := ⟨105, by decide, m_W_insert_t3 l D x oo [.ref (f 1), .ref (f 26), .ref (f 31)] v1 v2 v3 (jL_XW x f ad cI cZ cG cC σ) (jL_ty cI cZ cG cC) h⟩
theorem jL_ws_erase {l : Launch} {D : va_G} {x : Nat} {f ad : Nat → Nat} {cI cZ cG cC : ClassId} {oo : Nat} {cJ : ClassId} {σ : jL_T} {v1 v2 : Int32} {post : Int32 → jL_T → Prop} (h : jL_XM l D x f ad cI cZ cG cC 5 110 y_J_erase w_J_erase [.int v1, .int v2] σ post) : jL_WS l D x f ad cI cZ cG cC oo cJ y_W_erase ww_erase [.ref x, .int v1, .int v2, .ref oo] σ post := by
  obtain ⟨rm, h1, h2, h3, h4, h5⟩ := h
  exact ⟨({ frames := 6, cells := 0, slots := 0, locals := 133 } : Room), rfl, rfl, (Nat.le_of_ble_eq_true rfl), (Nat.le_of_ble_eq_true rfl), fun fo sz => m_W_erase_y l D sz x oo [.ref (f 1), .ref (f 26), .ref (f 31)] v1 v2 (jL_XW x f ad cI cZ cG cC σ) (jL_ty cI cZ cG cC) cJ fo rfl (jL_XW x f ad cI cZ cG cC) post rm h1 h2 h3 h4 h5⟩
theorem jL_wt_erase_1 {l : Launch} {D : va_G} {x : Nat} {f ad : Nat → Nat} {cI cZ cG cC : ClassId} {oo : Nat} {σ : jL_T} {v1 v2 : Int32} (h : jT_Met l y_J_erase w_J_erase ({ frames := 6, cells := 1, slots := 6, locals := 81 }) (jT_P (.ref x :: [.int v1, .int v2]) D jw_cl (jL_XW x f ad cI cZ cG cC σ) (jL_ty cI cZ cG cC)) "java/lang/IllegalArgumentException") : jL_WT l D x f ad cI cZ cG cC y_W_erase ww_erase [.ref x, .int v1, .int v2, .ref oo] σ 1 := ⟨104, by decide, m_W_erase_t1 l D x oo [.ref (f 1), .ref (f 26), .ref (f 31)] v1 v2 (jL_XW x f ad cI cZ cG cC σ) (jL_ty cI cZ cG cC) h⟩
theorem jL_wt_erase_2 {l : Launch} {D : va_G} {x : Nat} {f ad : Nat → Nat} {cI cZ cG cC : ClassId} {oo : Nat} {σ : jL_T} {v1 v2 : Int32} (h : jT_Met l y_J_erase w_J_erase ({ frames := 6, cells := 1, slots := 6, locals := 81 }) (jT_P (.ref x :: [.int v1, .int v2]) D jw_cl (jL_XW x f ad cI cZ cG cC σ) (jL_ty cI cZ cG cC)) "java/lang/IndexOutOfBoundsException") : jL_WT l D x f ad cI cZ cG cC y_W_erase ww_erase [.ref x, .int v1, .int v2, .ref oo] σ 2 := ⟨104, by decide, m_W_erase_t2 l D x oo [.ref (f 1), .ref (f 26), .ref (f 31)] v1 v2 (jL_XW x f ad cI cZ cG cC σ) (jL_ty cI cZ cG cC) h⟩
theorem jL_wt_erase_3 {l : Launch} {D : va_G} {x : Nat} {f ad : Nat → Nat} {cI cZ cG cC : ClassId} {oo : Nat} {σ : jL_T} {v1 v2 : Int32} (h : jT_Met l y_J_erase w_J_erase ({ frames := 6, cells := 1, slots := 6, locals := 81 }) (jT_P (.ref x :: [.int v1, .int v2]) D jw_cl (jL_XW x f ad cI cZ cG cC σ) (jL_ty cI cZ cG cC)) "java/lang/IllegalStateException") : jL_WT l D x f ad cI cZ cG cC y_W_erase ww_erase [.ref x, .int v1, .int v2, .ref oo] σ 3 := ⟨104, by decide, m_W_erase_t3 l D x oo [.ref (f 1), .ref (f 26), .ref (f 31)] v1 v2 (jL_XW x f ad cI cZ cG cC σ) (jL_ty cI cZ cG cC) h⟩
theorem jL_ws_undo {l : Launch} {D : va_G} {x : Nat} {f ad : Nat → Nat} {cI cZ cG cC : ClassId} {oo : Nat} {cJ : ClassId} {σ : jL_T} {v1 : Int32} {post : Int32 → jL_T → Prop} (h : jL_XM l D x f ad cI cZ cG cC 5 110 y_J_undo w_J_undo [.int v1] σ post) : jL_WS l D x f ad cI cZ cG cC oo cJ y_W_undo ww_undo [.ref x, .int v1, .ref oo] σ post := by
  obtain ⟨rm, h1, h2, h3, h4, h5⟩ := h
  exact ⟨({ frames := 6, cells := 0, slots := 0, locals := 134 } : Room), rfl, rfl, (Nat.le_of_ble_eq_true rfl), (Nat.le_of_ble_eq_true rfl), fun fo sz => m_W_undo_y l D sz x oo [.ref (f 1), .ref (f 26), .ref (f 31)] v1 (jL_XW x f ad cI cZ cG cC σ) (jL_ty cI cZ cG cC) cJ fo rfl (jL_XW x f ad cI cZ cG cC) post rm h1 h2 h3 h4 h5⟩
theorem jL_wt_undo_1 {l : Launch} {D : va_G} {x : Nat} {f ad : Nat → Nat} {cI cZ cG cC : ClassId} {oo : Nat} {σ : jL_T} {v1 : Int32} (h : jT_Met l y_J_undo w_J_undo ({ frames := 6, cells := 1, slots := 6, locals := 81 }) (jT_P (.ref x :: [.int v1]) D jw_cl (jL_XW x f ad cI cZ cG cC σ) (jL_ty cI cZ cG cC)) "java/lang/IllegalArgumentException") : jL_WT l D x f ad cI cZ cG cC y_W_undo ww_undo [.ref x, .int v1, .ref oo] σ 1 := ⟨105, by decide, m_W_undo_t1 l D x oo [.ref (f 1), .ref (f 26), .ref (f 31)] v1 (jL_XW x f ad cI cZ cG cC σ) (jL_ty cI cZ cG cC) h⟩
theorem jL_wt_undo_2 {l : Launch} {D : va_G} {x : Nat} {f ad : Nat → Nat} {cI cZ cG cC : ClassId} {oo : Nat} {σ : jL_T} {v1 : Int32} (h : jT_Met l y_J_undo w_J_undo ({ frames := 6, cells := 1, slots := 6, locals := 81 }) (jT_P (.ref x :: [.int v1]) D jw_cl (jL_XW x f ad cI cZ cG cC σ) (jL_ty cI cZ cG cC)) "java/util/NoSuchElementException") : jL_WT l D x f ad cI cZ cG cC y_W_undo ww_undo [.ref x, .int v1, .ref oo] σ 2 := ⟨105, by decide, m_W_undo_t2 l D x oo [.ref (f 1), .ref (f 26), .ref (f 31)] v1 (jL_XW x f ad cI cZ cG cC σ) (jL_ty cI cZ cG cC) h⟩
theorem jL_wt_undo_3 {l : Launch} {D : va_G} {x : Nat} {f ad : Nat → Nat} {cI cZ cG cC : ClassId} {oo : Nat} {σ : jL_T} {v1 : Int32} (h : jT_Met l y_J_undo w_J_undo ({ frames := 6, cells := 1, slots := 6, locals := 81 }) (jT_P (.ref x :: [.int v1]) D jw_cl (jL_XW x f ad cI cZ cG cC σ) (jL_ty cI cZ cG cC)) "java/lang/IllegalStateException") : jL_WT l D x f ad cI cZ cG cC y_W_undo ww_undo [.ref x, .int v1, .ref oo] σ 3 := ⟨105, by decide, m_W_undo_t3 l D x oo [.ref (f 1), .ref (f 26), .ref (f 31)] v1 (jL_XW x f ad cI cZ cG cC σ) (jL_ty cI cZ cG cC) h⟩
theorem jL_ws_character {l : Launch} {D : va_G} {x : Nat} {f ad : Nat → Nat} {cI cZ cG cC : ClassId} {oo : Nat} {cJ : ClassId} {σ : jL_T} {v1 v2 : Int32} {r : Int32} (hI : jL_I σ) (h : jL_XR l D x f ad cI cZ cG cC 2 42 y_J_character w_J_character [.int v1, .int v2] σ r) : jL_WS l D x f ad cI cZ cG cC oo cJ y_W_character ww_character [.ref x, .int v1, .int v2, .ref oo] σ (jL_po r σ.1) := by
  obtain ⟨rm, h1, h2, h3, h4, h5⟩ := h
  exact ⟨({ frames := 3, cells := 0, slots := 0, locals := 65 } : Room), rfl, rfl, (Nat.le_of_ble_eq_true rfl), (Nat.le_of_ble_eq_true rfl), fun fo sz => jL_re (m_W_character_y l D sz x oo [.ref (f 1), .ref (f 26), .ref (f 31)] v1 v2 (jL_XW x f ad cI cZ cG cC σ) (jL_ty cI cZ cG cC) cJ fo rfl rm h1 h2 h3 h4 r h5) (fun q u hp => ⟨(r, σ), ⟨hp, rfl, hI, rfl⟩, rfl⟩)⟩
theorem jL_wt_character_1 {l : Launch} {D : va_G} {x : Nat} {f ad : Nat → Nat} {cI cZ cG cC : ClassId} {oo : Nat} {σ : jL_T} {v1 v2 : Int32} (h : jT_Met l y_J_character w_J_character ({ frames := 6, cells := 1, slots := 6, locals := 81 }) (jT_P (.ref x :: [.int v1, .int v2]) D jw_cl (jL_XW x f ad cI cZ cG cC σ) (jL_ty cI cZ cG cC)) "java/lang/IllegalArgumentException") : jL_WT l D x f ad cI cZ cG cC y_W_character ww_character [.ref x, .int v1, .int v2, .ref oo] σ 1 := ⟨104, by decide, m_W_character_t1 l D x oo [.ref (f 1), .ref (f 26), .ref (f 31)] v1 v2 (jL_XW x f ad cI cZ cG cC σ) (jL_ty cI cZ cG cC) h⟩
theorem jL_wt_character_2 {l : Launch} {D : va_G} {x : Nat} {f ad : Nat → Nat} {cI cZ cG cC : ClassId} {oo : Nat} {σ : jL_T} {v1 v2 : Int32} (h : jT_Met l y_J_character w_J_character ({ frames := 6, cells := 1, slots := 6, locals := 81 }) (jT_P (.ref x :: [.int v1, .int v2]) D jw_cl (jL_XW x f ad cI cZ cG cC σ) (jL_ty cI cZ cG cC)) "java/lang/IllegalStateException") : jL_WT l D x f ad cI cZ cG cC y_W_character ww_character [.ref x, .int v1, .int v2, .ref oo] σ 2 := ⟨104, by decide, m_W_character_t2 l D x oo [.ref (f 1), .ref (f 26), .ref (f 31)] v1 v2 (jL_XW x f ad cI cZ cG cC σ) (jL_ty cI cZ cG cC) h⟩
theorem jL_wt_character_3 {l : Launch} {D : va_G} {x : Nat} {f ad : Nat → Nat} {cI cZ cG cC : ClassId} {oo : Nat} {σ : jL_T} {v1 v2 : Int32} (h : jT_Met l y_J_character w_J_character ({ frames := 6, cells := 1, slots := 6, locals := 81 }) (jT_P (.ref x :: [.int v1, .int v2]) D jw_cl (jL_XW x f ad cI cZ cG cC σ) (jL_ty cI cZ cG cC)) "java/lang/IndexOutOfBoundsException") : jL_WT l D x f ad cI cZ cG cC y_W_character ww_character [.ref x, .int v1, .int v2, .ref oo] σ 3 := ⟨104, by decide, m_W_character_t3 l D x oo [.ref (f 1), .ref (f 26), .ref (f 31)] v1 v2 (jL_XW x f ad cI cZ cG cC σ) (jL_ty cI cZ cG cC) h⟩
