section JLZ4
variable {l : Launch} {D : va_G} {x : Nat} {f ad : Nat → Nat} {cI cZ cG cC : ClassId} {S : jt_S} {X : Nat → jt_X} {Y : jt_Y} {M : Nat → Nat → Int32}
set_option maxHeartbeats 4000000 in
set_option maxRecDepth 100000 in
theorem tL_insert_a1 (hlf : l.flags = pinnedFlags ++ [noTraceFlag]) (hI : jL_I (S, X, Y, M)) (v w u : Int32) (hn : ¬ (¬ v < 0 ∧ ¬ nI 3 ≤ v)) : jT_Met l y_J_insert w_J_insert ({ frames := 6, cells := 1, slots := 6, locals := 81 }) (jT_P (.ref x :: [.int v, .int w, .int u]) D jw_cl (jL_XW x f ad cI cZ cG cC (S, X, Y, M)) (jL_ty cI cZ cG cC)) "java/lang/IllegalArgumentException" := by
  have hi : jt_inv S := hI.1.1
  have hx : ∀ c, c < 3 → jt_rc (X c) (js_cl S c) := hI.2.1
  have hy : jt_rv Y S := hI.2.2.1
  have hm : jt_rm M (js_L S) := hI.2.2.2
  exact jL_tX (m_J_insert_a1 l hlf D x v w u hn) (fun H hP => jw_subP hP [] rfl) [] rfl

set_option maxHeartbeats 4000000 in
set_option maxRecDepth 100000 in
theorem tL_insert_a2 (hlf : l.flags = pinnedFlags ++ [noTraceFlag]) (hI : jL_I (S, X, Y, M)) {c : Nat} (hc : c < 3) (w u : Int32) (hu : u < nI 32 ∨ ¬ u ≤ nI 126) : jT_Met l y_J_insert w_J_insert ({ frames := 6, cells := 1, slots := 6, locals := 81 }) (jT_P (.ref x :: [.int (nI c), .int w, .int u]) D jw_cl (jL_XW x f ad cI cZ cG cC (S, X, Y, M)) (jL_ty cI cZ cG cC)) "java/lang/IllegalArgumentException" := by
  have hi : jt_inv S := hI.1.1
  have hx : ∀ c, c < 3 → jt_rc (X c) (js_cl S c) := hI.2.1
  have hy : jt_rv Y S := hI.2.2.1
  have hm : jt_rm M (js_L S) := hI.2.2.2
  rcases (by omega : c = 0 ∨ c = 1 ∨ c = 2) with e | e | e
  · subst e
    exact jL_tX (m_J_insert_a2 l hlf D x 0 (by decide) w u hu) (fun H hP => jw_subP hP [] rfl) [] rfl
  · subst e
    exact jL_tX (m_J_insert_a2 l hlf D x 1 (by decide) w u hu) (fun H hP => jw_subP hP [] rfl) [] rfl
  · subst e
    exact jL_tX (m_J_insert_a2 l hlf D x 2 (by decide) w u hu) (fun H hP => jw_subP hP [] rfl) [] rfl

set_option maxHeartbeats 4000000 in
set_option maxRecDepth 100000 in
theorem tL_insert_i (hlf : l.flags = pinnedFlags ++ [noTraceFlag]) (hI : jL_I (S, X, Y, M)) {c : Nat} (hc : c < 3) (ch : Nat) (hch : 32 ≤ ch ∧ ch ≤ 126) (w : Int32) (hw : w < 0 ∨ ¬ w ≤ nI (jc_tx (js_cl S c)).2) : jT_Met l y_J_insert w_J_insert ({ frames := 6, cells := 1, slots := 6, locals := 81 }) (jT_P (.ref x :: [.int (nI c), .int w, .int (nI ch)]) D jw_cl (jL_XW x f ad cI cZ cG cC (S, X, Y, M)) (jL_ty cI cZ cG cC)) "java/lang/IndexOutOfBoundsException" := by
  have hi : jt_inv S := hI.1.1
  have hx : ∀ c, c < 3 → jt_rc (X c) (js_cl S c) := hI.2.1
  have hy : jt_rv Y S := hI.2.2.1
  have hm : jt_rm M (js_L S) := hI.2.2.2
  rcases (by omega : c = 0 ∨ c = 1 ∨ c = 2) with e | e | e
  · subst e
    exact jL_tX (m_J_insert_i l hlf D x (f 1) (f 26) (f 31) (f 2) (f 9) (f 3) (f 4) (f 5) cC (jL_gc f) (nI 0) (nI (jc_bk (js_cl S 0))) (nI (jc_rv (js_cl S 0))) (nI (jc_on (js_cl S 0))) (jc_pn (js_cl S 0)) ((jc_tx (js_cl S 0)).2) 0 (by decide) ((jr_ln hi (c := 0) (by decide)).1) (jL_t68 hi (c := 0) (by decide)) rfl ch hch w hw) (fun H hP => jw_subP hP [0, 1, 2, 3] rfl) [3] rfl
  · subst e
    exact jL_tX (m_J_insert_i l hlf D x (f 1) (f 26) (f 31) (f 10) (f 17) (f 11) (f 12) (f 13) cC (jL_gc f) (nI 1) (nI (jc_bk (js_cl S 1))) (nI (jc_rv (js_cl S 1))) (nI (jc_on (js_cl S 1))) (jc_pn (js_cl S 1)) ((jc_tx (js_cl S 1)).2) 1 (by decide) ((jr_ln hi (c := 1) (by decide)).1) (jL_t68 hi (c := 1) (by decide)) rfl ch hch w hw) (fun H hP => jw_subP hP [0, 1, 10, 11] rfl) [3] rfl
  · subst e
    exact jL_tX (m_J_insert_i l hlf D x (f 1) (f 26) (f 31) (f 18) (f 25) (f 19) (f 20) (f 21) cC (jL_gc f) (nI 2) (nI (jc_bk (js_cl S 2))) (nI (jc_rv (js_cl S 2))) (nI (jc_on (js_cl S 2))) (jc_pn (js_cl S 2)) ((jc_tx (js_cl S 2)).2) 2 (by decide) ((jr_ln hi (c := 2) (by decide)).1) (jL_t68 hi (c := 2) (by decide)) rfl ch hch w hw) (fun H hP => jw_subP hP [0, 1, 18, 19] rfl) [3] rfl

set_option maxHeartbeats 4000000 in
set_option maxRecDepth 100000 in
theorem tL_insert_s (hlf : l.flags = pinnedFlags ++ [noTraceFlag]) (hI : jL_I (S, X, Y, M)) {c : Nat} (hc : c < 3) (ch p : Nat) (hch : 32 ≤ ch ∧ ch ≤ 126) (hp : p ≤ (jc_tx (js_cl S c)).2) (hfull : 8 ≤ jc_pn (js_cl S c) ∨ 60 ≤ (jc_tx (js_cl S c)).2) : jT_Met l y_J_insert w_J_insert ({ frames := 6, cells := 1, slots := 6, locals := 81 }) (jT_P (.ref x :: [.int (nI c), .int (nI p), .int (nI ch)]) D jw_cl (jL_XW x f ad cI cZ cG cC (S, X, Y, M)) (jL_ty cI cZ cG cC)) "java/lang/IllegalStateException" := by
  have hi : jt_inv S := hI.1.1
  have hx : ∀ c, c < 3 → jt_rc (X c) (js_cl S c) := hI.2.1
  have hy : jt_rv Y S := hI.2.2.1
  have hm : jt_rm M (js_L S) := hI.2.2.2
  rcases (by omega : c = 0 ∨ c = 1 ∨ c = 2) with e | e | e
  · subst e
    exact jL_tX (m_J_insert_s l hlf D x (f 1) (f 26) (f 31) (f 2) (f 9) (f 3) (f 4) (f 5) cC (jL_gc f) (nI 0) (nI (jc_bk (js_cl S 0))) (nI (jc_rv (js_cl S 0))) (nI (jc_on (js_cl S 0))) (jc_pn (js_cl S 0)) ((jc_tx (js_cl S 0)).2) 0 (by decide) ((jr_ln hi (c := 0) (by decide)).1) (jL_t68 hi (c := 0) (by decide)) rfl ch p hch hp hfull) (fun H hP => jw_subP hP [0, 1, 2, 3] rfl) [3] rfl
  · subst e
    exact jL_tX (m_J_insert_s l hlf D x (f 1) (f 26) (f 31) (f 10) (f 17) (f 11) (f 12) (f 13) cC (jL_gc f) (nI 1) (nI (jc_bk (js_cl S 1))) (nI (jc_rv (js_cl S 1))) (nI (jc_on (js_cl S 1))) (jc_pn (js_cl S 1)) ((jc_tx (js_cl S 1)).2) 1 (by decide) ((jr_ln hi (c := 1) (by decide)).1) (jL_t68 hi (c := 1) (by decide)) rfl ch p hch hp hfull) (fun H hP => jw_subP hP [0, 1, 10, 11] rfl) [3] rfl
  · subst e
    exact jL_tX (m_J_insert_s l hlf D x (f 1) (f 26) (f 31) (f 18) (f 25) (f 19) (f 20) (f 21) cC (jL_gc f) (nI 2) (nI (jc_bk (js_cl S 2))) (nI (jc_rv (js_cl S 2))) (nI (jc_on (js_cl S 2))) (jc_pn (js_cl S 2)) ((jc_tx (js_cl S 2)).2) 2 (by decide) ((jr_ln hi (c := 2) (by decide)).1) (jL_t68 hi (c := 2) (by decide)) rfl ch p hch hp hfull) (fun H hP => jw_subP hP [0, 1, 18, 19] rfl) [3] rfl

set_option maxHeartbeats 4000000 in
set_option maxRecDepth 100000 in
theorem tL_erase_a (hlf : l.flags = pinnedFlags ++ [noTraceFlag]) (hI : jL_I (S, X, Y, M)) (v w : Int32) (hn : ¬ (¬ v < 0 ∧ ¬ nI 3 ≤ v)) : jT_Met l y_J_erase w_J_erase ({ frames := 6, cells := 1, slots := 6, locals := 81 }) (jT_P (.ref x :: [.int v, .int w]) D jw_cl (jL_XW x f ad cI cZ cG cC (S, X, Y, M)) (jL_ty cI cZ cG cC)) "java/lang/IllegalArgumentException" := by
  have hi : jt_inv S := hI.1.1
  have hx : ∀ c, c < 3 → jt_rc (X c) (js_cl S c) := hI.2.1
  have hy : jt_rv Y S := hI.2.2.1
  have hm : jt_rm M (js_L S) := hI.2.2.2
  exact jL_tX (m_J_erase_a l hlf D x v w hn) (fun H hP => jw_subP hP [] rfl) [] rfl

set_option maxHeartbeats 4000000 in
set_option maxRecDepth 100000 in
theorem tL_erase_i (hlf : l.flags = pinnedFlags ++ [noTraceFlag]) (hI : jL_I (S, X, Y, M)) {c : Nat} (hc : c < 3) (w : Int32) (hw : ¬ (¬ w < 0 ∧ ¬ nI (jc_tx (js_cl S c)).2 ≤ w)) : jT_Met l y_J_erase w_J_erase ({ frames := 6, cells := 1, slots := 6, locals := 81 }) (jT_P (.ref x :: [.int (nI c), .int w]) D jw_cl (jL_XW x f ad cI cZ cG cC (S, X, Y, M)) (jL_ty cI cZ cG cC)) "java/lang/IndexOutOfBoundsException" := by
  have hi : jt_inv S := hI.1.1
  have hx : ∀ c, c < 3 → jt_rc (X c) (js_cl S c) := hI.2.1
  have hy : jt_rv Y S := hI.2.2.1
  have hm : jt_rm M (js_L S) := hI.2.2.2
  rcases (by omega : c = 0 ∨ c = 1 ∨ c = 2) with e | e | e
  · subst e
    exact jL_tX (m_J_erase_i l hlf D x (f 1) (f 26) (f 31) (f 2) (f 9) (f 3) (f 4) (f 5) cC (jL_gc f) (nI 0) (nI (jc_bk (js_cl S 0))) (nI (jc_rv (js_cl S 0))) (nI (jc_on (js_cl S 0))) (jc_pn (js_cl S 0)) ((jc_tx (js_cl S 0)).2) 0 (by decide) ((jr_ln hi (c := 0) (by decide)).1) (jL_t68 hi (c := 0) (by decide)) rfl w hw) (fun H hP => jw_subP hP [0, 1, 2, 3] rfl) [3] rfl
  · subst e
    exact jL_tX (m_J_erase_i l hlf D x (f 1) (f 26) (f 31) (f 10) (f 17) (f 11) (f 12) (f 13) cC (jL_gc f) (nI 1) (nI (jc_bk (js_cl S 1))) (nI (jc_rv (js_cl S 1))) (nI (jc_on (js_cl S 1))) (jc_pn (js_cl S 1)) ((jc_tx (js_cl S 1)).2) 1 (by decide) ((jr_ln hi (c := 1) (by decide)).1) (jL_t68 hi (c := 1) (by decide)) rfl w hw) (fun H hP => jw_subP hP [0, 1, 10, 11] rfl) [3] rfl
  · subst e
    exact jL_tX (m_J_erase_i l hlf D x (f 1) (f 26) (f 31) (f 18) (f 25) (f 19) (f 20) (f 21) cC (jL_gc f) (nI 2) (nI (jc_bk (js_cl S 2))) (nI (jc_rv (js_cl S 2))) (nI (jc_on (js_cl S 2))) (jc_pn (js_cl S 2)) ((jc_tx (js_cl S 2)).2) 2 (by decide) ((jr_ln hi (c := 2) (by decide)).1) (jL_t68 hi (c := 2) (by decide)) rfl w hw) (fun H hP => jw_subP hP [0, 1, 18, 19] rfl) [3] rfl

set_option maxHeartbeats 4000000 in
set_option maxRecDepth 100000 in
theorem tL_erase_s (hlf : l.flags = pinnedFlags ++ [noTraceFlag]) (hI : jL_I (S, X, Y, M)) {c : Nat} (hc : c < 3) (p : Nat) (hp : p < (jc_tx (js_cl S c)).2) (hfull : 8 ≤ jc_pn (js_cl S c)) : jT_Met l y_J_erase w_J_erase ({ frames := 6, cells := 1, slots := 6, locals := 81 }) (jT_P (.ref x :: [.int (nI c), .int (nI p)]) D jw_cl (jL_XW x f ad cI cZ cG cC (S, X, Y, M)) (jL_ty cI cZ cG cC)) "java/lang/IllegalStateException" := by
  have hi : jt_inv S := hI.1.1
  have hx : ∀ c, c < 3 → jt_rc (X c) (js_cl S c) := hI.2.1
  have hy : jt_rv Y S := hI.2.2.1
  have hm : jt_rm M (js_L S) := hI.2.2.2
  rcases (by omega : c = 0 ∨ c = 1 ∨ c = 2) with e | e | e
  · subst e
    exact jL_tX (m_J_erase_s l hlf D x (f 1) (f 26) (f 31) (f 2) (f 9) (f 3) (f 4) (f 5) cC (jL_gc f) (nI 0) (nI (jc_bk (js_cl S 0))) (nI (jc_rv (js_cl S 0))) (nI (jc_on (js_cl S 0))) (jc_pn (js_cl S 0)) ((jc_tx (js_cl S 0)).2) 0 (by decide) ((jr_ln hi (c := 0) (by decide)).1) (jL_t68 hi (c := 0) (by decide)) rfl p hp hfull) (fun H hP => jw_subP hP [0, 1, 2, 3] rfl) [3] rfl
  · subst e
    exact jL_tX (m_J_erase_s l hlf D x (f 1) (f 26) (f 31) (f 10) (f 17) (f 11) (f 12) (f 13) cC (jL_gc f) (nI 1) (nI (jc_bk (js_cl S 1))) (nI (jc_rv (js_cl S 1))) (nI (jc_on (js_cl S 1))) (jc_pn (js_cl S 1)) ((jc_tx (js_cl S 1)).2) 1 (by decide) ((jr_ln hi (c := 1) (by decide)).1) (jL_t68 hi (c := 1) (by decide)) rfl p hp hfull) (fun H hP => jw_subP hP [0, 1, 10, 11] rfl) [3] rfl
  · subst e
    exact jL_tX (m_J_erase_s l hlf D x (f 1) (f 26) (f 31) (f 18) (f 25) (f 19) (f 20) (f 21) cC (jL_gc f) (nI 2) (nI (jc_bk (js_cl S 2))) (nI (jc_rv (js_cl S 2))) (nI (jc_on (js_cl S 2))) (jc_pn (js_cl S 2)) ((jc_tx (js_cl S 2)).2) 2 (by decide) ((jr_ln hi (c := 2) (by decide)).1) (jL_t68 hi (c := 2) (by decide)) rfl p hp hfull) (fun H hP => jw_subP hP [0, 1, 18, 19] rfl) [3] rfl

set_option maxHeartbeats 4000000 in
set_option maxRecDepth 100000 in
theorem tL_undo_a (hlf : l.flags = pinnedFlags ++ [noTraceFlag]) (hI : jL_I (S, X, Y, M)) (v : Int32) (hn : ¬ (¬ v < 0 ∧ ¬ nI 3 ≤ v)) : jT_Met l y_J_undo w_J_undo ({ frames := 6, cells := 1, slots := 6, locals := 81 }) (jT_P (.ref x :: [.int v]) D jw_cl (jL_XW x f ad cI cZ cG cC (S, X, Y, M)) (jL_ty cI cZ cG cC)) "java/lang/IllegalArgumentException" := by
  have hi : jt_inv S := hI.1.1
  have hx : ∀ c, c < 3 → jt_rc (X c) (js_cl S c) := hI.2.1
  have hy : jt_rv Y S := hI.2.2.1
  have hm : jt_rm M (js_L S) := hI.2.2.2
  exact jL_tX (m_J_undo_a l hlf D x v hn) (fun H hP => jw_subP hP [] rfl) [] rfl

set_option maxHeartbeats 4000000 in
set_option maxRecDepth 100000 in
theorem tL_undo_n (hlf : l.flags = pinnedFlags ++ [noTraceFlag]) (hI : jL_I (S, X, Y, M)) {c : Nat} (hc : c < 3) (hla : jt_la (jc_lf (js_cl S c)) (jc_ln (js_cl S c)) = none) : jT_Met l y_J_undo w_J_undo ({ frames := 6, cells := 1, slots := 6, locals := 81 }) (jT_P (.ref x :: [.int (nI c)]) D jw_cl (jL_XW x f ad cI cZ cG cC (S, X, Y, M)) (jL_ty cI cZ cG cC)) "java/util/NoSuchElementException" := by
  have hi : jt_inv S := hI.1.1
  have hx : ∀ c, c < 3 → jt_rc (X c) (js_cl S c) := hI.2.1
  have hy : jt_rv Y S := hI.2.2.1
  have hm : jt_rm M (js_L S) := hI.2.2.2
  rcases (by omega : c = 0 ∨ c = 1 ∨ c = 2) with e | e | e
  · subst e
    exact jL_tX (m_J_undo_n l hlf D (f 6) (f 7) (f 8) cI cZ ((X 0).2.2.1) ((X 0).2.2.2.1) ((X 0).2.2.2.2) (js_cl S 0) ((hx 0 (by decide)).2.2) ((jr_ln hi (c := 0) (by decide)).2.1) x (f 1) (f 26) (f 31) (f 2) (f 9) (f 3) (f 4) (f 5) cC (jL_gc f) (nI 0) (nI (jc_bk (js_cl S 0))) (nI (jc_rv (js_cl S 0))) (nI (jc_on (js_cl S 0))) (jc_pn (js_cl S 0)) ((jc_tx (js_cl S 0)).2) 0 (by decide) ((jr_ln hi (c := 0) (by decide)).1) (jL_t68 hi (c := 0) (by decide)) rfl hla) (fun H hP => jw_subP hP [0, 1, 2, 3, 5, 6, 7, 8] rfl) [0, 1, 3] rfl
  · subst e
    exact jL_tX (m_J_undo_n l hlf D (f 14) (f 15) (f 16) cI cZ ((X 1).2.2.1) ((X 1).2.2.2.1) ((X 1).2.2.2.2) (js_cl S 1) ((hx 1 (by decide)).2.2) ((jr_ln hi (c := 1) (by decide)).2.1) x (f 1) (f 26) (f 31) (f 10) (f 17) (f 11) (f 12) (f 13) cC (jL_gc f) (nI 1) (nI (jc_bk (js_cl S 1))) (nI (jc_rv (js_cl S 1))) (nI (jc_on (js_cl S 1))) (jc_pn (js_cl S 1)) ((jc_tx (js_cl S 1)).2) 1 (by decide) ((jr_ln hi (c := 1) (by decide)).1) (jL_t68 hi (c := 1) (by decide)) rfl hla) (fun H hP => jw_subP hP [0, 1, 10, 11, 13, 14, 15, 16] rfl) [0, 1, 3] rfl
  · subst e
    exact jL_tX (m_J_undo_n l hlf D (f 22) (f 23) (f 24) cI cZ ((X 2).2.2.1) ((X 2).2.2.2.1) ((X 2).2.2.2.2) (js_cl S 2) ((hx 2 (by decide)).2.2) ((jr_ln hi (c := 2) (by decide)).2.1) x (f 1) (f 26) (f 31) (f 18) (f 25) (f 19) (f 20) (f 21) cC (jL_gc f) (nI 2) (nI (jc_bk (js_cl S 2))) (nI (jc_rv (js_cl S 2))) (nI (jc_on (js_cl S 2))) (jc_pn (js_cl S 2)) ((jc_tx (js_cl S 2)).2) 2 (by decide) ((jr_ln hi (c := 2) (by decide)).1) (jL_t68 hi (c := 2) (by decide)) rfl hla) (fun H hP => jw_subP hP [0, 1, 18, 19, 21, 22, 23, 24] rfl) [0, 1, 3] rfl

set_option maxHeartbeats 4000000 in
set_option maxRecDepth 100000 in
theorem tL_undo_s (hlf : l.flags = pinnedFlags ++ [noTraceFlag]) (hI : jL_I (S, X, Y, M)) {c : Nat} (hc : c < 3) (j : Nat) (hla : jt_la (jc_lf (js_cl S c)) (jc_ln (js_cl S c)) = some j) (hfull : 8 ≤ jc_pn (js_cl S c) ∨ 60 ≤ (jc_tx (js_cl S c)).2) : jT_Met l y_J_undo w_J_undo ({ frames := 6, cells := 1, slots := 6, locals := 81 }) (jT_P (.ref x :: [.int (nI c)]) D jw_cl (jL_XW x f ad cI cZ cG cC (S, X, Y, M)) (jL_ty cI cZ cG cC)) "java/lang/IllegalStateException" := by
  have hi : jt_inv S := hI.1.1
  have hx : ∀ c, c < 3 → jt_rc (X c) (js_cl S c) := hI.2.1
  have hy : jt_rv Y S := hI.2.2.1
  have hm : jt_rm M (js_L S) := hI.2.2.2
  rcases (by omega : c = 0 ∨ c = 1 ∨ c = 2) with e | e | e
  · subst e
    exact jL_tX (m_J_undo_s l hlf D (f 6) (f 7) (f 8) cI cZ ((X 0).2.2.1) ((X 0).2.2.2.1) ((X 0).2.2.2.2) (js_cl S 0) ((hx 0 (by decide)).2.2) ((jr_ln hi (c := 0) (by decide)).2.1) x (f 1) (f 26) (f 31) (f 2) (f 9) (f 3) (f 4) (f 5) cC (jL_gc f) (nI 0) (nI (jc_bk (js_cl S 0))) (nI (jc_rv (js_cl S 0))) (nI (jc_on (js_cl S 0))) (jc_pn (js_cl S 0)) ((jc_tx (js_cl S 0)).2) 0 (by decide) ((jr_ln hi (c := 0) (by decide)).1) (jL_t68 hi (c := 0) (by decide)) rfl j hla hfull) (fun H hP => jw_subP hP [0, 1, 2, 3, 5, 6, 7, 8] rfl) [0, 1, 3] rfl
  · subst e
    exact jL_tX (m_J_undo_s l hlf D (f 14) (f 15) (f 16) cI cZ ((X 1).2.2.1) ((X 1).2.2.2.1) ((X 1).2.2.2.2) (js_cl S 1) ((hx 1 (by decide)).2.2) ((jr_ln hi (c := 1) (by decide)).2.1) x (f 1) (f 26) (f 31) (f 10) (f 17) (f 11) (f 12) (f 13) cC (jL_gc f) (nI 1) (nI (jc_bk (js_cl S 1))) (nI (jc_rv (js_cl S 1))) (nI (jc_on (js_cl S 1))) (jc_pn (js_cl S 1)) ((jc_tx (js_cl S 1)).2) 1 (by decide) ((jr_ln hi (c := 1) (by decide)).1) (jL_t68 hi (c := 1) (by decide)) rfl j hla hfull) (fun H hP => jw_subP hP [0, 1, 10, 11, 13, 14, 15, 16] rfl) [0, 1, 3] rfl
  · subst e
    exact jL_tX (m_J_undo_s l hlf D (f 22) (f 23) (f 24) cI cZ ((X 2).2.2.1) ((X 2).2.2.2.1) ((X 2).2.2.2.2) (js_cl S 2) ((hx 2 (by decide)).2.2) ((jr_ln hi (c := 2) (by decide)).2.1) x (f 1) (f 26) (f 31) (f 18) (f 25) (f 19) (f 20) (f 21) cC (jL_gc f) (nI 2) (nI (jc_bk (js_cl S 2))) (nI (jc_rv (js_cl S 2))) (nI (jc_on (js_cl S 2))) (jc_pn (js_cl S 2)) ((jc_tx (js_cl S 2)).2) 2 (by decide) ((jr_ln hi (c := 2) (by decide)).1) (jL_t68 hi (c := 2) (by decide)) rfl j hla hfull) (fun H hP => jw_subP hP [0, 1, 18, 19, 21, 22, 23, 24] rfl) [0, 1, 3] rfl

set_option maxHeartbeats 4000000 in
set_option maxRecDepth 100000 in
theorem tL_character_a (hlf : l.flags = pinnedFlags ++ [noTraceFlag]) (hI : jL_I (S, X, Y, M)) (v w : Int32) (hn : ¬ ((¬ v < 0 ∧ ¬ nI 3 ≤ v) ∨ v = nI 3)) : jT_Met l y_J_character w_J_character ({ frames := 6, cells := 1, slots := 6, locals := 81 }) (jT_P (.ref x :: [.int v, .int w]) D jw_cl (jL_XW x f ad cI cZ cG cC (S, X, Y, M)) (jL_ty cI cZ cG cC)) "java/lang/IllegalArgumentException" := by
  have hi : jt_inv S := hI.1.1
  have hx : ∀ c, c < 3 → jt_rc (X c) (js_cl S c) := hI.2.1
  have hy : jt_rv Y S := hI.2.2.1
  have hm : jt_rm M (js_L S) := hI.2.2.2
  exact jL_tX (m_J_character_a l hlf D x v w hn) (fun H hP => jw_subP hP [] rfl) [] rfl

set_option maxHeartbeats 4000000 in
set_option maxRecDepth 100000 in
theorem tL_character_s (hlf : l.flags = pinnedFlags ++ [noTraceFlag]) (hI : jL_I (S, X, Y, M)) (w : Int32) (hdn : js_up S = 0) : jT_Met l y_J_character w_J_character ({ frames := 6, cells := 1, slots := 6, locals := 81 }) (jT_P (.ref x :: [.int (nI 3), .int w]) D jw_cl (jL_XW x f ad cI cZ cG cC (S, X, Y, M)) (jL_ty cI cZ cG cC)) "java/lang/IllegalStateException" := by
  have hi : jt_inv S := hI.1.1
  have hx : ∀ c, c < 3 → jt_rc (X c) (js_cl S c) := hI.2.1
  have hy : jt_rv Y S := hI.2.2.1
  have hm : jt_rm M (js_L S) := hI.2.2.2
  exact jL_tX (m_J_character_s l hlf D x (f 1) (f 26) (f 31) (f 29) (f 30) (f 27) S hi.1.2.2.2.1 w hdn) (fun H hP => jw_subP hP [0, 26] rfl) [] rfl

set_option maxHeartbeats 4000000 in
set_option maxRecDepth 100000 in
theorem tL_character_is (hlf : l.flags = pinnedFlags ++ [noTraceFlag]) (hI : jL_I (S, X, Y, M)) (w : Int32) (hdn : js_up S ≠ 0) (hw : ¬ (¬ w < 0 ∧ ¬ nI Y.2.2.2.2 ≤ w)) : jT_Met l y_J_character w_J_character ({ frames := 6, cells := 1, slots := 6, locals := 81 }) (jT_P (.ref x :: [.int (nI 3), .int w]) D jw_cl (jL_XW x f ad cI cZ cG cC (S, X, Y, M)) (jL_ty cI cZ cG cC)) "java/lang/IndexOutOfBoundsException" := by
  have hi : jt_inv S := hI.1.1
  have hx : ∀ c, c < 3 → jt_rc (X c) (js_cl S c) := hI.2.1
  have hy : jt_rv Y S := hI.2.2.1
  have hm : jt_rm M (js_L S) := hI.2.2.2
  exact jL_tX (m_J_character_is l hlf D x (f 1) (f 26) (f 31) (f 29) (f 30) (f 27) S hi.1.2.2.2.1 (f 28) Y.2.2.2.2 w hdn hw) (fun H hP => jw_subP hP [0, 26, 27] rfl) [] rfl

set_option maxHeartbeats 4000000 in
set_option maxRecDepth 100000 in
theorem tL_character_ic (hlf : l.flags = pinnedFlags ++ [noTraceFlag]) (hI : jL_I (S, X, Y, M)) {c : Nat} (hc : c < 3) (w : Int32) (hw : ¬ (¬ w < 0 ∧ ¬ nI (jc_tx (js_cl S c)).2 ≤ w)) : jT_Met l y_J_character w_J_character ({ frames := 6, cells := 1, slots := 6, locals := 81 }) (jT_P (.ref x :: [.int (nI c), .int w]) D jw_cl (jL_XW x f ad cI cZ cG cC (S, X, Y, M)) (jL_ty cI cZ cG cC)) "java/lang/IndexOutOfBoundsException" := by
  have hi : jt_inv S := hI.1.1
  have hx : ∀ c, c < 3 → jt_rc (X c) (js_cl S c) := hI.2.1
  have hy : jt_rv Y S := hI.2.2.1
  have hm : jt_rm M (js_L S) := hI.2.2.2
  rcases (by omega : c = 0 ∨ c = 1 ∨ c = 2) with e | e | e
  · subst e
    exact jL_tX (m_J_character_ic l hlf D x (f 1) (f 26) (f 31) (f 2) (f 9) (f 3) (f 4) (f 5) cC (jL_gc f) (nI 0) (nI (jc_bk (js_cl S 0))) (nI (jc_rv (js_cl S 0))) (nI (jc_on (js_cl S 0))) (jc_pn (js_cl S 0)) ((jc_tx (js_cl S 0)).2) 0 (by decide) ((jr_ln hi (c := 0) (by decide)).1) (jL_t68 hi (c := 0) (by decide)) rfl w hw) (fun H hP => jw_subP hP [0, 1, 2, 3] rfl) [3] rfl
  · subst e
    exact jL_tX (m_J_character_ic l hlf D x (f 1) (f 26) (f 31) (f 10) (f 17) (f 11) (f 12) (f 13) cC (jL_gc f) (nI 1) (nI (jc_bk (js_cl S 1))) (nI (jc_rv (js_cl S 1))) (nI (jc_on (js_cl S 1))) (jc_pn (js_cl S 1)) ((jc_tx (js_cl S 1)).2) 1 (by decide) ((jr_ln hi (c := 1) (by decide)).1) (jL_t68 hi (c := 1) (by decide)) rfl w hw) (fun H hP => jw_subP hP [0, 1, 10, 11] rfl) [3] rfl
  · subst e
    exact jL_tX (m_J_character_ic l hlf D x (f 1) (f 26) (f 31) (f 18) (f 25) (f 19) (f 20) (f 21) cC (jL_gc f) (nI 2) (nI (jc_bk (js_cl S 2))) (nI (jc_rv (js_cl S 2))) (nI (jc_on (js_cl S 2))) (jc_pn (js_cl S 2)) ((jc_tx (js_cl S 2)).2) 2 (by decide) ((jr_ln hi (c := 2) (by decide)).1) (jL_t68 hi (c := 2) (by decide)) rfl w hw) (fun H hP => jw_subP hP [0, 1, 18, 19] rfl) [3] rfl

end JLZ4
