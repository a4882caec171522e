section JLY
variable {l : Launch} {D : va_G} {x : Nat} {f ad : Nat → Nat} {cI cZ cG cC : ClassId} {fr lo : Nat} {y : MethodName} {w : List Cond} {av : List Value} {σ : jL_T} {rm : Room} {wc : va_W} {tyc : List (ClassId × FieldType)}
/-- answer and state behind a method -/
def jL_po (r : Int32) (S' : jt_S) : Int32 → jL_T → Prop := fun r' σ' => r' = r ∧ jL_I σ' ∧ σ'.1 = S'
theorem jL_rdI {r : Int32} (hI : jL_I σ) (hM : Met l y w rm (jw_P (.ref x :: av) D jw_cl wc tyc) (k2_QcV (.int r)) 0 0 (fun _ => False)) (hs : ∀ H, va_P D jw_cl (jL_XW x f ad cI cZ cG cC σ) H → va_P D jw_cl wc H) (isT : List Nat) (hT : isT.filterMap (fun i => (jL_ty cI cZ cG cC)[i]?) = tyc) (h1 : rm.cells = 0) (h2 : rm.slots = 0) (h3 : rm.frames ≤ fr) (h4 : rm.locals ≤ lo) : jL_XM l D x f ad cI cZ cG cC fr lo y w av σ (jL_po r σ.1) :=
  jL_XMi (jL_rdX hM hs isT hT h1 h2 h3 h4) (fun r' t ⟨e1, e2⟩ => ⟨e1, by rw [e2]; exact hI, by rw [e2]⟩)
/-- a method that only reads, said of the whole world -/
def jL_XR (l : Launch) (D : va_G) (x : Nat) (f ad : Nat → Nat) (cI cZ cG cC : ClassId) (fr lo : Nat) (y : MethodName) (w : List Cond) (av : List Value) (σ : jL_T) (r : Int32) : Prop :=
  ∃ rm : Room, rm.cells = 0 ∧ rm.slots = 0 ∧ rm.frames ≤ fr ∧ rm.locals ≤ lo ∧ Met l y w rm (jw_P (.ref x :: av) D jw_cl (jL_XW x f ad cI cZ cG cC σ) (jL_ty cI cZ cG cC)) (k2_QcV (.int r)) 0 0 (fun _ => False)
theorem jL_rdF {r : Int32} (hM : Met l y w rm (jw_P (.ref x :: av) D jw_cl wc tyc) (k2_QcV (.int r)) 0 0 (fun _ => False)) (hs : ∀ H, va_P D jw_cl (jL_XW x f ad cI cZ cG cC σ) H → va_P D jw_cl wc H) (isT : List Nat) (hT : isT.filterMap (fun i => (jL_ty cI cZ cG cC)[i]?) = tyc) (h1 : rm.cells = 0) (h2 : rm.slots = 0) (h3 : rm.frames ≤ fr) (h4 : rm.locals ≤ lo) : jL_XR l D x f ad cI cZ cG cC fr lo y w av σ r :=
  ⟨rm, h1, h2, h3, h4, jL_mono hM (fun a s ⟨e, hP, hK⟩ => ⟨e, hs _ hP, hK.sub isT hT⟩) (fun _ _ _ _ _ h => h) (fun _ h => h)⟩
theorem jL_tX {E : String} (h : jT_Met l y w rm (jT_P av D jw_cl wc tyc) E) (hs : ∀ H, va_P D jw_cl (jL_XW x f ad cI cZ cG cC σ) H → va_P D jw_cl wc H) (isT : List Nat) (hT : isT.filterMap (fun i => (jL_ty cI cZ cG cC)[i]?) = tyc) : jT_Met l y w rm (jT_P av D jw_cl (jL_XW x f ad cI cZ cG cC σ) (jL_ty cI cZ cG cC)) E :=
  jL_monoT h (fun a s ⟨⟨e, hP, hK⟩, hst⟩ => ⟨⟨e, hs _ hP, hK.sub isT hT⟩, hst⟩)
def jL_XV (l : Launch) (D : va_G) (x : Nat) (f ad : Nat → Nat) (cI cZ cG cC : ClassId) (fr lo : Nat) (y : MethodName) (w : List Cond) (av : List Value) (σ : jL_T) (post : jL_T → Prop) : Prop :=
  ∃ rm : Room, rm.cells = 0 ∧ rm.slots = 0 ∧ rm.frames ≤ fr ∧ rm.locals ≤ lo ∧ ∀ sz, Met l y w rm (jw_C (.ref x :: av) D jw_cl (jL_XW x f ad cI cZ cG cC σ) (jL_ty cI cZ cG cC) sz) (va_Qv post (jw_B D jw_cl (va_A (jL_XW x f ad cI cZ cG cC σ) sz) (jL_XW x f ad cI cZ cG cC)) (va_A (jL_XW x f ad cI cZ cG cC σ) sz)) 0 0 (va_A (jL_XW x f ad cI cZ cG cC σ) sz)
theorem jL_t68 {S : jt_S} (hi : jt_inv S) {c : Nat} (hc : c < 3) : (jc_tx (js_cl S c)).2 ≤ 68 := Nat.le_trans (jt_le_le _ _) (jr_ln hi hc).2.1
theorem jL_rc2 {X : Nat → jt_X} {cl cl' : Nat → jt_C} {c : Nat} {u : jt_X} (h : ∀ d, d < 3 → jt_rc (X d) (cl d)) (hcl : ∀ d, d ≠ c → cl' d = cl d) (hc : jt_rc u (cl' c)) : ∀ d, d < 3 → jt_rc (va_up X c u d) (cl' d) := fun d hd => by
  by_cases e : d = c
  · rw [e, va_up_self]; exact hc
  · rw [va_up_ne _ _ e, hcl d e]; exact h d hd
theorem jL_rc3 {X : Nat → jt_X} {cl cl' : Nat → jt_C} {c : Nat} (h : ∀ d, d < 3 → jt_rc (X d) (cl d)) (hcl : ∀ d, d ≠ c → cl' d = cl d) (hc : jt_rc (X c) (cl' c)) : ∀ d, d < 3 → jt_rc (X d) (cl' d) := fun d hd => by
  by_cases e : d = c
  · rw [e]; exact hc
  · rw [hcl d e]; exact h d hd
end JLY
set_option maxHeartbeats 4000000 in
theorem m_J_deliver_c (l : Launch) (D : va_G) (sz : Nat) (x ca z nn gg : Nat) (ad : Nat → Nat) (cI cZ cG cC : ClassId) (M : Nat → Nat → Int32) (S : jt_S) (hI : jt_inv S) (hM : jt_rm M (js_L S)) (ao an th ta : Nat) (Y : jt_Y) (hY : jt_rv Y S) (q e h a g b0 b1 b2 : Nat) (gc : Nat → Option Nat) (k c : Nat) (hc9 : ((js_L S).1 k).2.1 = c) (hk : k < (js_L S).2) (hg : gc c = some q) (X : jt_X) (hX : jt_rc X (js_cl S c)) : Met l y_J_deliver w_J_deliver ({ frames := 6, cells := 0, slots := 0, locals := 137 }) (jw_C [.ref x, .int (nI k)] D jw_cl (([(x, .inr (5, [.ref ca, .ref z, .ref nn])), (ca, .inl (cC, 3, .inr (.inr (.inr (.inr gc))))), (q, .inr (0, [.int (nI (c)), .ref h, .ref g, .ref e, .int (nI (jc_pn (js_cl S c))), .int (nI (jc_bk (js_cl S c))), .int (nI (jc_rv (js_cl S c))), .int (nI (jc_on (js_cl S c)))])), (e, .inl (cI, 8, .inl X.1)), (h, .inr (4, [.ref a, .int (nI ((jc_tx (js_cl S c)).2))])), (a, .inl (cI, 68, .inl X.2.1)), (g, .inr (2, [.ref b0, .ref b1, .ref b2, .int (nI (jc_ln (js_cl S c)))])), (b0, .inl (cI, 68, .inl X.2.2.1)), (b1, .inl (cI, 68, .inl X.2.2.2.1)), (b2, .inl (cZ, 68, .inl X.2.2.2.2)), (z, .inr (3, [.ref th, .ref ao, .ref an, .int (nI (js_N S)), .int (nI (js_up S)), .int (nI (js_tr S))])), (ao, .inl (cI, 60, .inl Y.1)), (an, .inl (cI, 60, .inl Y.2.1)), (th, .inr (4, [.ref ta, .int (nI Y.2.2.2.2)])), (ta, .inl (cI, 68, .inl Y.2.2.1)), (nn, .inr (1, [.ref gg, .int (nI ((js_L S).2))])), (gg, .inl (cG, 30, .inr (.inr (.inr (.inr (jx_o ad))))))] : va_W) ++ jx_r ad cI M) [(cI, .int), (cZ, .boolean), (cG, .array .int), (cC, .object "JointText$Client")] sz) (va_Qi (fun (r : Int32) (u : jt_X × jt_Y × (Nat → Nat → Int32)) => r = jt_da S k ∧ jt_rc u.1 (jt_dc S k) ∧ jt_rv u.2.1 (jt_s_dl S k) ∧ jt_rm u.2.2 (js_L (jt_s_dl S k))) (jw_B D jw_cl (va_A (([(x, .inr (5, [.ref ca, .ref z, .ref nn])), (ca, .inl (cC, 3, .inr (.inr (.inr (.inr gc))))), (q, .inr (0, [.int (nI (c)), .ref h, .ref g, .ref e, .int (nI (jc_pn (js_cl S c))), .int (nI (jc_bk (js_cl S c))), .int (nI (jc_rv (js_cl S c))), .int (nI (jc_on (js_cl S c)))])), (e, .inl (cI, 8, .inl X.1)), (h, .inr (4, [.ref a, .int (nI ((jc_tx (js_cl S c)).2))])), (a, .inl (cI, 68, .inl X.2.1)), (g, .inr (2, [.ref b0, .ref b1, .ref b2, .int (nI (jc_ln (js_cl S c)))])), (b0, .inl (cI, 68, .inl X.2.2.1)), (b1, .inl (cI, 68, .inl X.2.2.2.1)), (b2, .inl (cZ, 68, .inl X.2.2.2.2)), (z, .inr (3, [.ref th, .ref ao, .ref an, .int (nI (js_N S)), .int (nI (js_up S)), .int (nI (js_tr S))])), (ao, .inl (cI, 60, .inl Y.1)), (an, .inl (cI, 60, .inl Y.2.1)), (th, .inr (4, [.ref ta, .int (nI Y.2.2.2.2)])), (ta, .inl (cI, 68, .inl Y.2.2.1)), (nn, .inr (1, [.ref gg, .int (nI ((js_L S).2))])), (gg, .inl (cG, 30, .inr (.inr (.inr (.inr (jx_o ad))))))] : va_W) ++ jx_r ad cI M) sz) (fun u : jt_X × jt_Y × (Nat → Nat → Int32) => ([(x, .inr (5, [.ref ca, .ref z, .ref nn])), (ca, .inl (cC, 3, .inr (.inr (.inr (.inr gc))))), (q, .inr (0, [.int (nI (c)), .ref h, .ref g, .ref e, .int (nI (jc_pn (jt_dc S k))), .int (nI (jc_bk (jt_dc S k))), .int (nI (jc_rv (jt_dc S k))), .int (nI (jc_on (jt_dc S k)))])), (e, .inl (cI, 8, .inl u.1.1)), (h, .inr (4, [.ref a, .int (nI ((jc_tx (jt_dc S k)).2))])), (a, .inl (cI, 68, .inl u.1.2.1)), (g, .inr (2, [.ref b0, .ref b1, .ref b2, .int (nI (jc_ln (jt_dc S k)))])), (b0, .inl (cI, 68, .inl u.1.2.2.1)), (b1, .inl (cI, 68, .inl u.1.2.2.2.1)), (b2, .inl (cZ, 68, .inl u.1.2.2.2.2)), (z, .inr (3, [.ref th, .ref ao, .ref an, .int (nI (js_N (jt_s_dl S k))), .int (nI (js_up (jt_s_dl S k))), .int (nI (js_tr (jt_s_dl S k)))])), (ao, .inl (cI, 60, .inl u.2.1.1)), (an, .inl (cI, 60, .inl u.2.1.2.1)), (th, .inr (4, [.ref ta, .int (nI u.2.1.2.2.2.2)])), (ta, .inl (cI, 68, .inl u.2.1.2.2.1)), (nn, .inr (1, [.ref gg, .int (nI ((js_L (jt_s_dl S k)).2))])), (gg, .inl (cG, 30, .inr (.inr (.inr (.inr (jx_o ad))))))] : va_W) ++ jx_r ad cI u.2.2)) (va_A (([(x, .inr (5, [.ref ca, .ref z, .ref nn])), (ca, .inl (cC, 3, .inr (.inr (.inr (.inr gc))))), (q, .inr (0, [.int (nI (c)), .ref h, .ref g, .ref e, .int (nI (jc_pn (js_cl S c))), .int (nI (jc_bk (js_cl S c))), .int (nI (jc_rv (js_cl S c))), .int (nI (jc_on (js_cl S c)))])), (e, .inl (cI, 8, .inl X.1)), (h, .inr (4, [.ref a, .int (nI ((jc_tx (js_cl S c)).2))])), (a, .inl (cI, 68, .inl X.2.1)), (g, .inr (2, [.ref b0, .ref b1, .ref b2, .int (nI (jc_ln (js_cl S c)))])), (b0, .inl (cI, 68, .inl X.2.2.1)), (b1, .inl (cI, 68, .inl X.2.2.2.1)), (b2, .inl (cZ, 68, .inl X.2.2.2.2)), (z, .inr (3, [.ref th, .ref ao, .ref an, .int (nI (js_N S)), .int (nI (js_up S)), .int (nI (js_tr S))])), (ao, .inl (cI, 60, .inl Y.1)), (an, .inl (cI, 60, .inl Y.2.1)), (th, .inr (4, [.ref ta, .int (nI Y.2.2.2.2)])), (ta, .inl (cI, 68, .inl Y.2.2.1)), (nn, .inr (1, [.ref gg, .int (nI ((js_L S).2))])), (gg, .inl (cG, 30, .inr (.inr (.inr (.inr (jx_o ad))))))] : va_W) ++ jx_r ad cI M) sz)) 0 0 (va_A (([(x, .inr (5, [.ref ca, .ref z, .ref nn])), (ca, .inl (cC, 3, .inr (.inr (.inr (.inr gc))))), (q, .inr (0, [.int (nI (c)), .ref h, .ref g, .ref e, .int (nI (jc_pn (js_cl S c))), .int (nI (jc_bk (js_cl S c))), .int (nI (jc_rv (js_cl S c))), .int (nI (jc_on (js_cl S c)))])), (e, .inl (cI, 8, .inl X.1)), (h, .inr (4, [.ref a, .int (nI ((jc_tx (js_cl S c)).2))])), (a, .inl (cI, 68, .inl X.2.1)), (g, .inr (2, [.ref b0, .ref b1, .ref b2, .int (nI (jc_ln (js_cl S c)))])), (b0, .inl (cI, 68, .inl X.2.2.1)), (b1, .inl (cI, 68, .inl X.2.2.2.1)), (b2, .inl (cZ, 68, .inl X.2.2.2.2)), (z, .inr (3, [.ref th, .ref ao, .ref an, .int (nI (js_N S)), .int (nI (js_up S)), .int (nI (js_tr S))])), (ao, .inl (cI, 60, .inl Y.1)), (an, .inl (cI, 60, .inl Y.2.1)), (th, .inr (4, [.ref ta, .int (nI Y.2.2.2.2)])), (ta, .inl (cI, 68, .inl Y.2.2.1)), (nn, .inr (1, [.ref gg, .int (nI ((js_L S).2))])), (gg, .inl (cG, 30, .inr (.inr (.inr (.inr (jx_o ad))))))] : va_W) ++ jx_r ad cI M) sz) := by
  subst hc9
  exact m_J_deliver_y l D sz x ca z nn gg ad cI cZ cG cC M S hI hM ao an th ta Y hY q e h a g b0 b1 b2 gc k hk hg X hX
section JLZ
variable {l : Launch} {D : va_G} {x : Nat} {f ad : Nat → Nat} {cI cZ cG cC : ClassId} {S : jt_S} {X : Nat → jt_X} {Y : jt_Y} {M : Nat → Nat → Int32}
set_option maxHeartbeats 4000000 in
set_option maxRecDepth 100000 in
theorem xL_length_n (hI : jL_I (S, X, Y, M)) (v : Int32) (hn : ¬ ((¬ v < 0 ∧ ¬ nI 3 ≤ v) ∨ v = nI 3)) : jL_XM l D x f ad cI cZ cG cC 8 160 y_J_length w_J_length [.int v] (S, X, Y, M) (jL_po (-1) S) := by
  have hi : jt_inv S := hI.1.1
  have hx : ∀ c, c < 3 → jt_rc (X c) (js_cl S c) := hI.2.1
  have hy : jt_rv Y S := hI.2.2.1
  have hm : jt_rm M (js_L S) := hI.2.2.2
  exact jL_rdI hI (m_J_length_n l D x v hn) (fun H hP => jw_subP hP [] rfl) [] rfl rfl rfl (Nat.le_of_ble_eq_true rfl) (Nat.le_of_ble_eq_true rfl)

set_option maxHeartbeats 4000000 in
set_option maxRecDepth 100000 in
theorem xL_length_s (hI : jL_I (S, X, Y, M))  : jL_XM l D x f ad cI cZ cG cC 8 160 y_J_length w_J_length [.int (nI 3)] (S, X, Y, M) (jL_po (if js_up S = 0 then (-1) else nI Y.2.2.2.2) S) := by
  have hi : jt_inv S := hI.1.1
  have hx : ∀ c, c < 3 → jt_rc (X c) (js_cl S c) := hI.2.1
  have hy : jt_rv Y S := hI.2.2.1
  have hm : jt_rm M (js_L S) := hI.2.2.2
  exact jL_rdI hI (m_J_length_s l D x (f 1) (f 26) (f 31) (f 29) (f 30) (f 27) S hi.1.2.2.2.1 (f 28) (nI Y.2.2.2.2)) (fun H hP => jw_subP hP [0, 26, 27] rfl) [] rfl rfl rfl (Nat.le_of_ble_eq_true rfl) (Nat.le_of_ble_eq_true rfl)

set_option maxHeartbeats 4000000 in
set_option maxRecDepth 100000 in
theorem xL_length_c (hI : jL_I (S, X, Y, M)) {c : Nat} (hc : c < 3)  : jL_XM l D x f ad cI cZ cG cC 8 160 y_J_length w_J_length [.int (nI c)] (S, X, Y, M) (jL_po (nI (jc_tx (js_cl S c)).2) S) := by
  have hi : jt_inv S := hI.1.1
  have hx : ∀ c, c < 3 → jt_rc (X c) (js_cl S c) := hI.2.1
  have hy : jt_rv Y S := hI.2.2.1
  have hm : jt_rm M (js_L S) := hI.2.2.2
  rcases (by omega : c = 0 ∨ c = 1 ∨ c = 2) with e | e | e
  · subst e
    exact jL_rdI hI (m_J_length_c l D x (f 1) (f 26) (f 31) (f 2) (f 9) (f 3) (f 5) (f 4) cC (jL_gc f) (nI 0) (nI (jc_pn (js_cl S 0))) (nI (jc_bk (js_cl S 0))) (nI (jc_rv (js_cl S 0))) (nI (jc_on (js_cl S 0))) (nI (jc_tx (js_cl S 0)).2) 0 (by decide) rfl) (fun H hP => jw_subP hP [0, 1, 2, 3] rfl) [3] rfl rfl rfl (Nat.le_of_ble_eq_true rfl) (Nat.le_of_ble_eq_true rfl)
  · subst e
    exact jL_rdI hI (m_J_length_c l D x (f 1) (f 26) (f 31) (f 10) (f 17) (f 11) (f 13) (f 12) cC (jL_gc f) (nI 1) (nI (jc_pn (js_cl S 1))) (nI (jc_bk (js_cl S 1))) (nI (jc_rv (js_cl S 1))) (nI (jc_on (js_cl S 1))) (nI (jc_tx (js_cl S 1)).2) 1 (by decide) rfl) (fun H hP => jw_subP hP [0, 1, 10, 11] rfl) [3] rfl rfl rfl (Nat.le_of_ble_eq_true rfl) (Nat.le_of_ble_eq_true rfl)
  · subst e
    exact jL_rdI hI (m_J_length_c l D x (f 1) (f 26) (f 31) (f 18) (f 25) (f 19) (f 21) (f 20) cC (jL_gc f) (nI 2) (nI (jc_pn (js_cl S 2))) (nI (jc_bk (js_cl S 2))) (nI (jc_rv (js_cl S 2))) (nI (jc_on (js_cl S 2))) (nI (jc_tx (js_cl S 2)).2) 2 (by decide) rfl) (fun H hP => jw_subP hP [0, 1, 18, 19] rfl) [3] rfl rfl rfl (Nat.le_of_ble_eq_true rfl) (Nat.le_of_ble_eq_true rfl)

set_option maxHeartbeats 4000000 in
set_option maxRecDepth 100000 in
theorem xL_revision_n (hI : jL_I (S, X, Y, M)) (v : Int32) (hn : ¬ ((¬ v < 0 ∧ ¬ nI 3 ≤ v) ∨ v = nI 3)) : jL_XM l D x f ad cI cZ cG cC 8 160 y_J_revision w_J_revision [.int v] (S, X, Y, M) (jL_po (-1) S) := by
  have hi : jt_inv S := hI.1.1
  have hx : ∀ c, c < 3 → jt_rc (X c) (js_cl S c) := hI.2.1
  have hy : jt_rv Y S := hI.2.2.1
  have hm : jt_rm M (js_L S) := hI.2.2.2
  exact jL_rdI hI (m_J_revision_n l D x v hn) (fun H hP => jw_subP hP [] rfl) [] rfl rfl rfl (Nat.le_of_ble_eq_true rfl) (Nat.le_of_ble_eq_true rfl)

set_option maxHeartbeats 4000000 in
set_option maxRecDepth 100000 in
theorem xL_revision_s (hI : jL_I (S, X, Y, M))  : jL_XM l D x f ad cI cZ cG cC 8 160 y_J_revision w_J_revision [.int (nI 3)] (S, X, Y, M) (jL_po (nI (js_N S)) S) := by
  have hi : jt_inv S := hI.1.1
  have hx : ∀ c, c < 3 → jt_rc (X c) (js_cl S c) := hI.2.1
  have hy : jt_rv Y S := hI.2.2.1
  have hm : jt_rm M (js_L S) := hI.2.2.2
  exact jL_rdI hI (m_J_revision_s l D x (f 1) (f 26) (f 31) (f 29) (f 30) (f 27) (nI (js_N S)) (nI (js_up S)) (nI (js_tr S))) (fun H hP => jw_subP hP [0, 26] rfl) [] rfl rfl rfl (Nat.le_of_ble_eq_true rfl) (Nat.le_of_ble_eq_true rfl)

set_option maxHeartbeats 4000000 in
set_option maxRecDepth 100000 in
theorem xL_revision_c (hI : jL_I (S, X, Y, M)) {c : Nat} (hc : c < 3)  : jL_XM l D x f ad cI cZ cG cC 8 160 y_J_revision w_J_revision [.int (nI c)] (S, X, Y, M) (jL_po (nI (jc_rv (js_cl S c))) S) := by
  have hi : jt_inv S := hI.1.1
  have hx : ∀ c, c < 3 → jt_rc (X c) (js_cl S c) := hI.2.1
  have hy : jt_rv Y S := hI.2.2.1
  have hm : jt_rm M (js_L S) := hI.2.2.2
  rcases (by omega : c = 0 ∨ c = 1 ∨ c = 2) with e | e | e
  · subst e
    exact jL_rdI hI (m_J_revision_c l D x (f 1) (f 26) (f 31) (f 2) (f 9) (f 3) (f 5) cC (jL_gc f) (nI 0) (nI (jc_pn (js_cl S 0))) (nI (jc_bk (js_cl S 0))) (nI (jc_rv (js_cl S 0))) (nI (jc_on (js_cl S 0))) 0 (by decide) rfl) (fun H hP => jw_subP hP [0, 1, 2] rfl) [3] rfl rfl rfl (Nat.le_of_ble_eq_true rfl) (Nat.le_of_ble_eq_true rfl)
  · subst e
    exact jL_rdI hI (m_J_revision_c l D x (f 1) (f 26) (f 31) (f 10) (f 17) (f 11) (f 13) cC (jL_gc f) (nI 1) (nI (jc_pn (js_cl S 1))) (nI (jc_bk (js_cl S 1))) (nI (jc_rv (js_cl S 1))) (nI (jc_on (js_cl S 1))) 1 (by decide) rfl) (fun H hP => jw_subP hP [0, 1, 10] rfl) [3] rfl rfl rfl (Nat.le_of_ble_eq_true rfl) (Nat.le_of_ble_eq_true rfl)
  · subst e
    exact jL_rdI hI (m_J_revision_c l D x (f 1) (f 26) (f 31) (f 18) (f 25) (f 19) (f 21) cC (jL_gc f) (nI 2) (nI (jc_pn (js_cl S 2))) (nI (jc_bk (js_cl S 2))) (nI (jc_rv (js_cl S 2))) (nI (jc_on (js_cl S 2))) 2 (by decide) rfl) (fun H hP => jw_subP hP [0, 1, 18] rfl) [3] rfl rfl rfl (Nat.le_of_ble_eq_true rfl) (Nat.le_of_ble_eq_true rfl)

set_option maxHeartbeats 4000000 in
set_option maxRecDepth 100000 in
theorem xL_pending_n (hI : jL_I (S, X, Y, M)) (v : Int32) (hn : ¬ (¬ v < 0 ∧ ¬ nI 3 ≤ v)) : jL_XM l D x f ad cI cZ cG cC 8 160 y_J_pending w_J_pending [.int v] (S, X, Y, M) (jL_po (-1) S) := by
  have hi : jt_inv S := hI.1.1
  have hx : ∀ c, c < 3 → jt_rc (X c) (js_cl S c) := hI.2.1
  have hy : jt_rv Y S := hI.2.2.1
  have hm : jt_rm M (js_L S) := hI.2.2.2
  exact jL_rdI hI (m_J_pending_n l D x v hn) (fun H hP => jw_subP hP [] rfl) [] rfl rfl rfl (Nat.le_of_ble_eq_true rfl) (Nat.le_of_ble_eq_true rfl)

set_option maxHeartbeats 4000000 in
set_option maxRecDepth 100000 in
theorem xL_pending_c (hI : jL_I (S, X, Y, M)) {c : Nat} (hc : c < 3)  : jL_XM l D x f ad cI cZ cG cC 8 160 y_J_pending w_J_pending [.int (nI c)] (S, X, Y, M) (jL_po (nI (jc_pn (js_cl S c))) S) := by
  have hi : jt_inv S := hI.1.1
  have hx : ∀ c, c < 3 → jt_rc (X c) (js_cl S c) := hI.2.1
  have hy : jt_rv Y S := hI.2.2.1
  have hm : jt_rm M (js_L S) := hI.2.2.2
  rcases (by omega : c = 0 ∨ c = 1 ∨ c = 2) with e | e | e
  · subst e
    exact jL_rdI hI (m_J_pending_c l D x (f 1) (f 26) (f 31) (f 2) (f 9) (f 3) (f 5) cC (jL_gc f) (nI 0) (nI (jc_pn (js_cl S 0))) (nI (jc_bk (js_cl S 0))) (nI (jc_rv (js_cl S 0))) (nI (jc_on (js_cl S 0))) 0 (by decide) rfl) (fun H hP => jw_subP hP [0, 1, 2] rfl) [3] rfl rfl rfl (Nat.le_of_ble_eq_true rfl) (Nat.le_of_ble_eq_true rfl)
  · subst e
    exact jL_rdI hI (m_J_pending_c l D x (f 1) (f 26) (f 31) (f 10) (f 17) (f 11) (f 13) cC (jL_gc f) (nI 1) (nI (jc_pn (js_cl S 1))) (nI (jc_bk (js_cl S 1))) (nI (jc_rv (js_cl S 1))) (nI (jc_on (js_cl S 1))) 1 (by decide) rfl) (fun H hP => jw_subP hP [0, 1, 10] rfl) [3] rfl rfl rfl (Nat.le_of_ble_eq_true rfl) (Nat.le_of_ble_eq_true rfl)
  · subst e
    exact jL_rdI hI (m_J_pending_c l D x (f 1) (f 26) (f 31) (f 18) (f 25) (f 19) (f 21) cC (jL_gc f) (nI 2) (nI (jc_pn (js_cl S 2))) (nI (jc_bk (js_cl S 2))) (nI (jc_rv (js_cl S 2))) (nI (jc_on (js_cl S 2))) 2 (by decide) rfl) (fun H hP => jw_subP hP [0, 1, 18] rfl) [3] rfl rfl rfl (Nat.le_of_ble_eq_true rfl) (Nat.le_of_ble_eq_true rfl)

set_option maxHeartbeats 4000000 in
set_option maxRecDepth 100000 in
theorem xL_op_n (hI : jL_I (S, X, Y, M)) (v w : Int32) (hn : ¬ (¬ v < 0 ∧ ¬ nI (js_N S) ≤ v)) : jL_XM l D x f ad cI cZ cG cC 8 160 y_J_op w_J_op [.int v, .int w] (S, X, Y, M) (jL_po (-1) S) := by
  have hi : jt_inv S := hI.1.1
  have hx : ∀ c, c < 3 → jt_rc (X c) (js_cl S c) := hI.2.1
  have hy : jt_rv Y S := hI.2.2.1
  have hm : jt_rm M (js_L S) := hI.2.2.2
  exact jL_rdI hI (m_J_op_n l D x (f 1) (f 26) (f 31) (f 29) (f 30) (f 27) (nI (js_N S)) (nI (js_up S)) (nI (js_tr S)) v w hn) (fun H hP => jw_subP hP [0, 26] rfl) [] rfl rfl rfl (Nat.le_of_ble_eq_true rfl) (Nat.le_of_ble_eq_true rfl)

set_option maxHeartbeats 4000000 in
set_option maxRecDepth 100000 in
theorem xL_op_y (hI : jL_I (S, X, Y, M)) (i : Nat) (hi9 : i < js_N S) (w : Int32) : jL_XM l D x f ad cI cZ cG cC 8 160 y_J_op w_J_op [.int (nI i), .int w] (S, X, Y, M) (jL_po (jt_qo (js_H S) (js_num S) i w) S) := by
  have hi : jt_inv S := hI.1.1
  have hx : ∀ c, c < 3 → jt_rc (X c) (js_cl S c) := hI.2.1
  have hy : jt_rv Y S := hI.2.2.1
  have hm : jt_rm M (js_L S) := hI.2.2.2
  exact jL_rdI hI (m_J_op_y l D x (f 1) (f 26) (f 31) (f 29) (f 30) (f 27) cI (nI (js_up S)) (nI (js_tr S)) Y.1 Y.2.1 (js_H S) (js_N S) (js_num S) hy.1 hi.1.2.1 hi.1.1 i hi9 w) (fun H hP => jw_subP hP [0, 26, 29, 30] rfl) [0] rfl rfl rfl (Nat.le_of_ble_eq_true rfl) (Nat.le_of_ble_eq_true rfl)

set_option maxHeartbeats 4000000 in
set_option maxRecDepth 100000 in
theorem xL_waiting (hI : jL_I (S, X, Y, M))  : jL_XM l D x f ad cI cZ cG cC 8 160 y_J_waiting w_J_waiting [] (S, X, Y, M) (jL_po (nI (js_L S).2) S) := by
  have hi : jt_inv S := hI.1.1
  have hx : ∀ c, c < 3 → jt_rc (X c) (js_cl S c) := hI.2.1
  have hy : jt_rv Y S := hI.2.2.1
  have hm : jt_rm M (js_L S) := hI.2.2.2
  exact jL_rdI hI (m_J_waiting l D x (f 1) (f 26) (f 31) (f 32) (nI (js_L S).2)) (fun H hP => jw_subP hP [0, 31] rfl) [] rfl rfl rfl (Nat.le_of_ble_eq_true rfl) (Nat.le_of_ble_eq_true rfl)

set_option maxHeartbeats 4000000 in
set_option maxRecDepth 100000 in
theorem xL_message_n (hI : jL_I (S, X, Y, M)) (v w : Int32) (hn : ¬ (¬ v < 0 ∧ ¬ nI (js_L S).2 ≤ v)) : jL_XM l D x f ad cI cZ cG cC 8 160 y_J_message w_J_message [.int v, .int w] (S, X, Y, M) (jL_po (-1) S) := by
  have hi : jt_inv S := hI.1.1
  have hx : ∀ c, c < 3 → jt_rc (X c) (js_cl S c) := hI.2.1
  have hy : jt_rv Y S := hI.2.2.1
  have hm : jt_rm M (js_L S) := hI.2.2.2
  exact jL_rdI hI (m_J_message_n l D x (f 1) (f 26) (f 31) (f 32) (nI (js_L S).2) v hn w) (fun H hP => jw_subP hP [0, 31] rfl) [] rfl rfl rfl (Nat.le_of_ble_eq_true rfl) (Nat.le_of_ble_eq_true rfl)

set_option maxHeartbeats 4000000 in
set_option maxRecDepth 100000 in
theorem xL_message_y (hI : jL_I (S, X, Y, M)) (k : Nat) (hk : k < (js_L S).2) (w : Int32) : jL_XM l D x f ad cI cZ cG cC 8 160 y_J_message w_J_message [.int (nI k), .int w] (S, X, Y, M) (jL_po (jt_qm (js_L S) k w) S) := by
  have hi : jt_inv S := hI.1.1
  have hx : ∀ c, c < 3 → jt_rc (X c) (js_cl S c) := hI.2.1
  have hy : jt_rv Y S := hI.2.2.1
  have hm : jt_rm M (js_L S) := hI.2.2.2
  exact jL_rdI hI (m_J_message_y l D x (f 1) (f 26) (f 31) (f 32) ad cI cG M (js_L S) hm hi.2.2.1 k hk ((hi.2.2.2 k hk).1.2.2.1) w) (fun H hP => va_P.part hP [0, 31, 32] rfl) [0, 2] rfl rfl rfl (Nat.le_of_ble_eq_true rfl) (Nat.le_of_ble_eq_true rfl)

set_option maxHeartbeats 4000000 in
set_option maxRecDepth 100000 in
theorem xL_lose_n (hI : jL_I (S, X, Y, M)) (v : Int32) (hn : ¬ (¬ v < 0 ∧ ¬ nI (js_L S).2 ≤ v)) : jL_XM l D x f ad cI cZ cG cC 8 160 y_J_lose w_J_lose [.int v] (S, X, Y, M) (jL_po (nI 0) S) := by
  have hi : jt_inv S := hI.1.1
  have hx : ∀ c, c < 3 → jt_rc (X c) (js_cl S c) := hI.2.1
  have hy : jt_rv Y S := hI.2.2.1
  have hm : jt_rm M (js_L S) := hI.2.2.2
  exact jL_rdI hI (m_J_lose_n l D x (f 1) (f 26) (f 31) (f 32) (nI (js_L S).2) v hn) (fun H hP => jw_subP hP [0, 31] rfl) [] rfl rfl rfl (Nat.le_of_ble_eq_true rfl) (Nat.le_of_ble_eq_true rfl)

set_option maxHeartbeats 4000000 in
set_option maxRecDepth 100000 in
theorem xL_harm_n (hI : jL_I (S, X, Y, M)) (v y : Int32) (hn : ¬ (¬ v < 0 ∧ ¬ nI (js_L S).2 ≤ v)) : jL_XM l D x f ad cI cZ cG cC 8 160 y_J_harm w_J_harm [.int v, .int y] (S, X, Y, M) (jL_po (nI 0) S) := by
  have hi : jt_inv S := hI.1.1
  have hx : ∀ c, c < 3 → jt_rc (X c) (js_cl S c) := hI.2.1
  have hy : jt_rv Y S := hI.2.2.1
  have hm : jt_rm M (js_L S) := hI.2.2.2
  exact jL_rdI hI (m_J_harm_n l D x (f 1) (f 26) (f 31) (f 32) (nI (js_L S).2) v hn y) (fun H hP => jw_subP hP [0, 31] rfl) [] rfl rfl rfl (Nat.le_of_ble_eq_true rfl) (Nat.le_of_ble_eq_true rfl)

set_option maxHeartbeats 4000000 in
set_option maxRecDepth 100000 in
theorem xL_repeat_n (hI : jL_I (S, X, Y, M)) (v : Int32) (hn : ¬ (¬ v < 0 ∧ ¬ nI (js_L S).2 ≤ v)) : jL_XM l D x f ad cI cZ cG cC 8 160 y_J_repeat w_J_repeat [.int v] (S, X, Y, M) (jL_po (nI 0) S) := by
  have hi : jt_inv S := hI.1.1
  have hx : ∀ c, c < 3 → jt_rc (X c) (js_cl S c) := hI.2.1
  have hy : jt_rv Y S := hI.2.2.1
  have hm : jt_rm M (js_L S) := hI.2.2.2
  exact jL_rdI hI (m_J_repeat_n l D x (f 1) (f 26) (f 31) (f 32) (nI (js_L S).2) v hn) (fun H hP => jw_subP hP [0, 31] rfl) [] rfl rfl rfl (Nat.le_of_ble_eq_true rfl) (Nat.le_of_ble_eq_true rfl)

set_option maxHeartbeats 4000000 in
set_option maxRecDepth 100000 in
theorem xL_repeat_f (hI : jL_I (S, X, Y, M)) (k : Nat) (hk : k < (js_L S).2) (h30 : (js_L S).2 = 30) : jL_XM l D x f ad cI cZ cG cC 8 160 y_J_repeat w_J_repeat [.int (nI k)] (S, X, Y, M) (jL_po (nI 0) S) := by
  have hi : jt_inv S := hI.1.1
  have hx : ∀ c, c < 3 → jt_rc (X c) (js_cl S c) := hI.2.1
  have hy : jt_rv Y S := hI.2.2.1
  have hm : jt_rm M (js_L S) := hI.2.2.2
  exact jL_rdI hI (m_J_repeat_f l D x (f 1) (f 26) (f 31) (f 32) ((js_L S).2) k hk h30) (fun H hP => jw_subP hP [0, 31] rfl) [] rfl rfl rfl (Nat.le_of_ble_eq_true rfl) (Nat.le_of_ble_eq_true rfl)

set_option maxHeartbeats 4000000 in
set_option maxRecDepth 100000 in
theorem xL_trip_n (hI : jL_I (S, X, Y, M)) (v : Int32) (hn : ¬ (¬ v < 0 ∧ v ≤ nI 2)) : jL_XM l D x f ad cI cZ cG cC 8 160 y_J_trip w_J_trip [.int v] (S, X, Y, M) (jL_po (nI 0) S) := by
  have hi : jt_inv S := hI.1.1
  have hx : ∀ c, c < 3 → jt_rc (X c) (js_cl S c) := hI.2.1
  have hy : jt_rv Y S := hI.2.2.1
  have hm : jt_rm M (js_L S) := hI.2.2.2
  exact jL_rdI hI (m_J_trip_n l D x v hn) (fun H hP => jw_subP hP [] rfl) [] rfl rfl rfl (Nat.le_of_ble_eq_true rfl) (Nat.le_of_ble_eq_true rfl)

set_option maxHeartbeats 4000000 in
set_option maxRecDepth 100000 in
theorem xL_crash_n (hI : jL_I (S, X, Y, M)) (hup : js_up S = 0) : jL_XM l D x f ad cI cZ cG cC 8 160 y_J_crash w_J_crash [] (S, X, Y, M) (jL_po (nI 0) S) := by
  have hi : jt_inv S := hI.1.1
  have hx : ∀ c, c < 3 → jt_rc (X c) (js_cl S c) := hI.2.1
  have hy : jt_rv Y S := hI.2.2.1
  have hm : jt_rm M (js_L S) := hI.2.2.2
  exact jL_rdI hI (m_J_crash_n l D x (f 1) (f 26) (f 31) (f 29) (f 30) (f 27) (nI (js_N S)) (nI (js_tr S)) (js_up S) hup) (fun H hP => jw_subP hP [0, 26] rfl) [] rfl rfl rfl (Nat.le_of_ble_eq_true rfl) (Nat.le_of_ble_eq_true rfl)

set_option maxHeartbeats 4000000 in
set_option maxRecDepth 100000 in
theorem xL_restart_n (hI : jL_I (S, X, Y, M)) (hup : js_up S = 1) : jL_XM l D x f ad cI cZ cG cC 8 160 y_J_restart w_J_restart [] (S, X, Y, M) (jL_po (nI 0) S) := by
  have hi : jt_inv S := hI.1.1
  have hx : ∀ c, c < 3 → jt_rc (X c) (js_cl S c) := hI.2.1
  have hy : jt_rv Y S := hI.2.2.1
  have hm : jt_rm M (js_L S) := hI.2.2.2
  exact jL_rdI hI (m_J_restart_n l D x (f 1) (f 26) (f 31) (f 29) (f 30) (f 27) (nI (js_N S)) (nI (js_tr S)) (js_up S) hup) (fun H hP => jw_subP hP [0, 26] rfl) [] rfl rfl rfl (Nat.le_of_ble_eq_true rfl) (Nat.le_of_ble_eq_true rfl)

set_option maxHeartbeats 4000000 in
set_option maxRecDepth 100000 in
theorem xL_connect_n (hI : jL_I (S, X, Y, M)) (v w : Int32) (hn : ¬ (¬ v < 0 ∧ ¬ nI 3 ≤ v)) : jL_XM l D x f ad cI cZ cG cC 8 160 y_J_connect w_J_connect [.int v, .int w] (S, X, Y, M) (jL_po (nI 0) S) := by
  have hi : jt_inv S := hI.1.1
  have hx : ∀ c, c < 3 → jt_rc (X c) (js_cl S c) := hI.2.1
  have hy : jt_rv Y S := hI.2.2.1
  have hm : jt_rm M (js_L S) := hI.2.2.2
  exact jL_rdI hI (m_J_connect_n l D x v hn w) (fun H hP => jw_subP hP [] rfl) [] rfl rfl rfl (Nat.le_of_ble_eq_true rfl) (Nat.le_of_ble_eq_true rfl)

set_option maxHeartbeats 4000000 in
set_option maxRecDepth 100000 in
theorem xL_connect_e (hI : jL_I (S, X, Y, M)) {c : Nat} (hc : c < 3) (b : Nat) (hb1 : b ≤ 1) (hnb : jc_on (js_cl S c) = b) : jL_XM l D x f ad cI cZ cG cC 8 160 y_J_connect w_J_connect [.int (nI c), .int (nI b)] (S, X, Y, M) (jL_po (nI 0) S) := by
  have hi : jt_inv S := hI.1.1
  have hx : ∀ c, c < 3 → jt_rc (X c) (js_cl S c) := hI.2.1
  have hy : jt_rv Y S := hI.2.2.1
  have hm : jt_rm M (js_L S) := hI.2.2.2
  rcases (by omega : c = 0 ∨ c = 1 ∨ c = 2) with e | e | e
  · subst e
    exact jL_rdI hI (m_J_connect_e l D x (f 1) (f 26) (f 31) (f 2) (f 9) (f 3) (f 5) cC (jL_gc f) (nI 0) (nI (jc_pn (js_cl S 0))) (nI (jc_bk (js_cl S 0))) (nI (jc_rv (js_cl S 0))) (jc_on (js_cl S 0)) b 0 hb1 hnb (by decide) rfl) (fun H hP => jw_subP hP [0, 1, 2] rfl) [3] rfl rfl rfl (Nat.le_of_ble_eq_true rfl) (Nat.le_of_ble_eq_true rfl)
  · subst e
    exact jL_rdI hI (m_J_connect_e l D x (f 1) (f 26) (f 31) (f 10) (f 17) (f 11) (f 13) cC (jL_gc f) (nI 1) (nI (jc_pn (js_cl S 1))) (nI (jc_bk (js_cl S 1))) (nI (jc_rv (js_cl S 1))) (jc_on (js_cl S 1)) b 1 hb1 hnb (by decide) rfl) (fun H hP => jw_subP hP [0, 1, 10] rfl) [3] rfl rfl rfl (Nat.le_of_ble_eq_true rfl) (Nat.le_of_ble_eq_true rfl)
  · subst e
    exact jL_rdI hI (m_J_connect_e l D x (f 1) (f 26) (f 31) (f 18) (f 25) (f 19) (f 21) cC (jL_gc f) (nI 2) (nI (jc_pn (js_cl S 2))) (nI (jc_bk (js_cl S 2))) (nI (jc_rv (js_cl S 2))) (jc_on (js_cl S 2)) b 2 hb1 hnb (by decide) rfl) (fun H hP => jw_subP hP [0, 1, 18] rfl) [3] rfl rfl rfl (Nat.le_of_ble_eq_true rfl) (Nat.le_of_ble_eq_true rfl)

set_option maxHeartbeats 4000000 in
set_option maxRecDepth 100000 in
theorem xL_deliver_n (hI : jL_I (S, X, Y, M)) (v : Int32) (hn : ¬ (¬ v < 0 ∧ ¬ nI (js_L S).2 ≤ v)) : jL_XM l D x f ad cI cZ cG cC 8 160 y_J_deliver w_J_deliver [.int v] (S, X, Y, M) (jL_po (-1) S) := by
  have hi : jt_inv S := hI.1.1
  have hx : ∀ c, c < 3 → jt_rc (X c) (js_cl S c) := hI.2.1
  have hy : jt_rv Y S := hI.2.2.1
  have hm : jt_rm M (js_L S) := hI.2.2.2
  exact jL_rdI hI (m_J_deliver_n l D x (f 1) (f 26) (f 31) (f 32) (nI (js_L S).2) v hn) (fun H hP => jw_subP hP [0, 31] rfl) [] rfl rfl rfl (Nat.le_of_ble_eq_true rfl) (Nat.le_of_ble_eq_true rfl)

set_option maxHeartbeats 4000000 in
set_option maxRecDepth 100000 in
theorem xL_character_ys (hI : jL_I (S, X, Y, M)) (hdn : js_up S ≠ 0) (p : Nat) (hp : p < Y.2.2.2.2) : jL_XR l D x f ad cI cZ cG cC 2 42 y_J_character w_J_character [.int (nI 3), .int (nI p)] (S, X, Y, M) (nI (Y.2.2.2.1 p)) := by
  have hi : jt_inv S := hI.1.1
  have hx : ∀ c, c < 3 → jt_rc (X c) (js_cl S c) := hI.2.1
  have hy : jt_rv Y S := hI.2.2.1
  have hm : jt_rm M (js_L S) := hI.2.2.2
  exact jL_rdF (m_J_character_ys l D x (f 1) (f 26) (f 31) (f 29) (f 30) (f 27) S hi.1.2.2.2.1 (f 28) cI Y.2.2.1 Y.2.2.2 hy.2.1 hy.2.2.1 hdn p hp) (fun H hP => jw_subP hP [0, 26, 27, 28] rfl) [0] rfl rfl rfl (Nat.le_of_ble_eq_true rfl) (Nat.le_of_ble_eq_true rfl)

set_option maxHeartbeats 4000000 in
set_option maxRecDepth 100000 in
theorem xL_character_yc (hI : jL_I (S, X, Y, M)) {c : Nat} (hc : c < 3) (p : Nat) (hp : p < (jc_tx (js_cl S c)).2) : jL_XR l D x f ad cI cZ cG cC 2 42 y_J_character w_J_character [.int (nI c), .int (nI p)] (S, X, Y, M) (nI ((jc_tx (js_cl S c)).1 p)) := by
  have hi : jt_inv S := hI.1.1
  have hx : ∀ c, c < 3 → jt_rc (X c) (js_cl S c) := hI.2.1
  have hy : jt_rv Y S := hI.2.2.1
  have hm : jt_rm M (js_L S) := hI.2.2.2
  rcases (by omega : c = 0 ∨ c = 1 ∨ c = 2) with e | e | e
  · subst e
    exact jL_rdF (m_J_character_yc l D x (f 1) (f 26) (f 31) (f 2) (f 9) (f 3) (f 4) (f 5) cC cI (jL_gc f) (nI 0) (nI (jc_pn (js_cl S 0))) (nI (jc_bk (js_cl S 0))) (nI (jc_rv (js_cl S 0))) (nI (jc_on (js_cl S 0))) 0 (by decide) rfl ((X 0).2.1) (jc_tx (js_cl S 0)) ((hx 0 (by decide)).2.1) (jL_t68 hi (c := 0) (by decide)) p hp) (fun H hP => jw_subP hP [0, 1, 2, 3, 4] rfl) [0, 3] rfl rfl rfl (Nat.le_of_ble_eq_true rfl) (Nat.le_of_ble_eq_true rfl)
  · subst e
    exact jL_rdF (m_J_character_yc l D x (f 1) (f 26) (f 31) (f 10) (f 17) (f 11) (f 12) (f 13) cC cI (jL_gc f) (nI 1) (nI (jc_pn (js_cl S 1))) (nI (jc_bk (js_cl S 1))) (nI (jc_rv (js_cl S 1))) (nI (jc_on (js_cl S 1))) 1 (by decide) rfl ((X 1).2.1) (jc_tx (js_cl S 1)) ((hx 1 (by decide)).2.1) (jL_t68 hi (c := 1) (by decide)) p hp) (fun H hP => jw_subP hP [0, 1, 10, 11, 12] rfl) [0, 3] rfl rfl rfl (Nat.le_of_ble_eq_true rfl) (Nat.le_of_ble_eq_true rfl)
  · subst e
    exact jL_rdF (m_J_character_yc l D x (f 1) (f 26) (f 31) (f 18) (f 25) (f 19) (f 20) (f 21) cC cI (jL_gc f) (nI 2) (nI (jc_pn (js_cl S 2))) (nI (jc_bk (js_cl S 2))) (nI (jc_rv (js_cl S 2))) (nI (jc_on (js_cl S 2))) 2 (by decide) rfl ((X 2).2.1) (jc_tx (js_cl S 2)) ((hx 2 (by decide)).2.1) (jL_t68 hi (c := 2) (by decide)) p hp) (fun H hP => jw_subP hP [0, 1, 18, 19, 20] rfl) [0, 3] rfl rfl rfl (Nat.le_of_ble_eq_true rfl) (Nat.le_of_ble_eq_true rfl)

end JLZ
