/-! The law: the class's world and the reference's world, whole; every contract said of them. -/
section JLM
variable {l : Launch} {y : MethodName} {w : List Cond} {rm : Room} {Pc Pc' : Array Value → State → Prop} {Qc Qc' : Array Value → State → Outcome → State → Prop} {mc ms : Nat} {free free' : Addr → Prop}
theorem jL_mono (h : Met l y w rm Pc Qc mc ms free) (hp : ∀ a s, Pc' a s → Pc a s) (hq : ∀ a st o t, Pc' a st → Qc a st o t → Qc' a st o t) (hf : ∀ q, free q → free' q) : Met l y w rm Pc' Qc' mc ms free' := by
  intro p e h1 h2 h3 s m args below h4 h5 h6 h7
  obtain ⟨n, o, a1, a2, a3, a4, L, a5, a6⟩ := h p e h1 h2 h3 s m args below h4 h5 (hp _ _ h6) h7
  exact ⟨n, o, a1, a2, a3, hq _ _ _ _ h6 a4, L, a5, fun q hq' => hf _ (a6 q hq')⟩
theorem jL_monoT {X : String} (h : jT_Met l y w rm Pc X) (hp : ∀ a s, Pc' a s → Pc a s) : jT_Met l y w rm Pc' X := by
  intro p e h1 h2 h3 s m args below h4 h5 h6 h7
  exact h p e h1 h2 h3 s m args below h4 h5 (hp _ _ h6) h7
end JLM
section JLF
variable {l : Launch} {y : MethodName} {w : List Cond} {rm : Room} {av : List Value} {D : va_G} {cl : List vw_C} {tyc tys : List (ClassId × FieldType)} {sz : Nat} {X cx wr pl : va_W}
theorem jL_Asub (isC : List Nat) (hC : isC.map (fun i => X[i]?) = cx.map some) : ∀ q, va_A (cx ++ pl) sz q → va_A (X ++ pl) sz q := fun q h => by
  rcases h with ⟨k, e, h⟩ | h
  · exact Or.inl ⟨_, e, va_part isC hC k _ h⟩
  · exact Or.inr h
theorem jL_AsubQ (isC : List Nat) (hC : isC.map (fun i => X[i]?) = cx.map some) : ∀ q, va_A cx sz q → va_A (X ++ pl) sz q := fun q h => by
  rcases h with ⟨k, e, h⟩ | h
  · obtain ⟨i, h1, h2⟩ := va_in_of isC hC h
    exact Or.inl ⟨i, e, by rw [List.getElem?_append_left (List.getElem?_eq_some_iff.mp h2).1]; exact h2⟩
  · exact Or.inr h
/-- a contract of some cells and the rows, said of all cells -/
theorem jL_frP {S T : Type} {post : Int32 → S → Prop} {rx p1 : S → va_W} {post' : Int32 → T → Prop} {W' : T → va_W}
    (hM : Met l y w rm (jw_C av D cl (cx ++ pl) tyc sz) (va_Qi post (jw_B D cl (va_A (cx ++ pl) sz) (fun u => rx u ++ p1 u)) (va_A (cx ++ pl) sz)) 0 0 (va_A (cx ++ pl) sz))
    (isC isR : List Nat) (hC : isC.map (fun i => X[i]?) = cx.map some) (hnC : va_nd isC = true) (hR : isR.map (fun i => X[i]?) = wr.map some) (hn : va_nd isR = true) (hdis : ∀ i ∈ isR, i ∉ isC) (isT : List Nat) (hT : isT.filterMap (fun i => tys[i]?) = tyc)
    (is : List Nat) (hnd : va_nd is = true) (hw : ∀ r u, post r u → ∃ t : T, post' r t ∧ ∃ X' : va_W, W' t = X' ++ p1 u ∧ is.map (fun i => (wr ++ rx u)[i]?) = X'.map some) :
    Met l y w rm (jw_C av D cl (X ++ pl) tys sz) (va_Qi post' (jw_B D cl (va_A (X ++ pl) sz) W') (va_A (X ++ pl) sz)) 0 0 (va_A (X ++ pl) sz) := by
  refine jL_mono hM ?_ ?_ (jL_Asub isC hC)
  · rintro a s ⟨ha, hsz, hP, hK, hD⟩
    exact ⟨ha, hsz, hP.part isC hC, hK.sub isT hT, hD.part isC hnC hC⟩
  · rintro a st o t ⟨ha, hsz, hP, hK, hD⟩ ⟨⟨r, u, ho, hp, hP1, hD1⟩, hF⟩
    obtain ⟨t1, hp1, X', e1, his⟩ := hw r u hp
    subst hsz
    have hD' : va_D (va_A (X ++ pl) st.heap.size) (X ++ pl) := hD.self
    obtain ⟨hP2, hD2⟩ := va_joinP (wr := wr) (rx := rx u) (pl1 := p1 u) hP hD' isC isR hC hR hn hdis hF.2 (jL_Asub isC hC) hP1 hD1
    refine ⟨⟨r, t1, ho, hp1, ?_, ?_⟩, hF.1, fun q h1 h2 => hF.2 q h1 (fun z => h2 (jL_Asub isC hC q z))⟩
    · rw [e1]; exact hP2.part is his
    · rw [e1]; exact hD2.part is hnd his
theorem jL_frV {S T : Type} {post : S → Prop} {rx p1 : S → va_W} {post' : T → Prop} {W' : T → va_W}
    (hM : Met l y w rm (jw_C av D cl (cx ++ pl) tyc sz) (va_Qv post (jw_B D cl (va_A (cx ++ pl) sz) (fun u => rx u ++ p1 u)) (va_A (cx ++ pl) sz)) 0 0 (va_A (cx ++ pl) sz))
    (isC isR : List Nat) (hC : isC.map (fun i => X[i]?) = cx.map some) (hnC : va_nd isC = true) (hR : isR.map (fun i => X[i]?) = wr.map some) (hn : va_nd isR = true) (hdis : ∀ i ∈ isR, i ∉ isC) (isT : List Nat) (hT : isT.filterMap (fun i => tys[i]?) = tyc)
    (is : List Nat) (hnd : va_nd is = true) (hw : ∀ u, post u → ∃ t : T, post' t ∧ ∃ X' : va_W, W' t = X' ++ p1 u ∧ is.map (fun i => (wr ++ rx u)[i]?) = X'.map some) :
    Met l y w rm (jw_C av D cl (X ++ pl) tys sz) (va_Qv post' (jw_B D cl (va_A (X ++ pl) sz) W') (va_A (X ++ pl) sz)) 0 0 (va_A (X ++ pl) sz) := by
  refine jL_mono hM ?_ ?_ (jL_Asub isC hC)
  · rintro a s ⟨ha, hsz, hP, hK, hD⟩
    exact ⟨ha, hsz, hP.part isC hC, hK.sub isT hT, hD.part isC hnC hC⟩
  · rintro a st o t ⟨ha, hsz, hP, hK, hD⟩ ⟨⟨u, ho, hp, hP1, hD1⟩, hF⟩
    obtain ⟨t1, hp1, X', e1, his⟩ := hw u hp
    subst hsz
    have hD' : va_D (va_A (X ++ pl) st.heap.size) (X ++ pl) := hD.self
    obtain ⟨hP2, hD2⟩ := va_joinP (wr := wr) (rx := rx u) (pl1 := p1 u) hP hD' isC isR hC hR hn hdis hF.2 (jL_Asub isC hC) hP1 hD1
    refine ⟨⟨t1, ho, hp1, ?_, ?_⟩, hF.1, fun q h1 h2 => hF.2 q h1 (fun z => h2 (jL_Asub isC hC q z))⟩
    · rw [e1]; exact hP2.part is his
    · rw [e1]; exact hD2.part is hnd his
theorem jL_frQ {S T : Type} {post : Int32 → S → Prop} {w1 : S → va_W} {post' : Int32 → T → Prop} {W' : T → va_W}
    (hM : Met l y w rm (jw_C av D cl cx tyc sz) (va_Qi post (jw_B D cl (va_A cx sz) w1) (va_A cx sz)) 0 0 (va_A cx sz))
    (isC isR : List Nat) (hC : isC.map (fun i => X[i]?) = cx.map some) (hnC : va_nd isC = true) (hR : isR.map (fun i => X[i]?) = wr.map some) (hn : va_nd isR = true) (hdis : ∀ i ∈ isR, i ∉ isC) (isT : List Nat) (hT : isT.filterMap (fun i => tys[i]?) = tyc)
    (is : List Nat) (hnd : va_nd is = true) (hw : ∀ r u, post r u → ∃ t : T, post' r t ∧ ∃ X' : va_W, W' t = X' ++ pl ∧ is.map (fun i => (wr ++ w1 u)[i]?) = X'.map some) :
    Met l y w rm (jw_C av D cl (X ++ pl) tys sz) (va_Qi post' (jw_B D cl (va_A (X ++ pl) sz) W') (va_A (X ++ pl) sz)) 0 0 (va_A (X ++ pl) sz) := by
  refine jL_mono hM ?_ ?_ (jL_AsubQ isC hC)
  · rintro a s ⟨ha, hsz, hP, hK, hD⟩
    exact ⟨ha, hsz, jw_subP hP isC hC, hK.sub isT hT, jw_subD hD isC hnC hC⟩
  · rintro a st o t ⟨ha, hsz, hP, hK, hD⟩ ⟨⟨r, u, ho, hp, hP1, hD1⟩, hF⟩
    obtain ⟨t1, hp1, X', e1, his⟩ := hw r u hp
    subst hsz
    have hD' : va_D (va_A (X ++ pl) st.heap.size) (X ++ pl) := hD.self
    obtain ⟨hP2, hD2⟩ := va_joinQ (wr := wr) (w1 := w1 u) hP hD' isC isR hC hR hn hdis hF.2 (jL_AsubQ isC hC) hP1 hD1
    refine ⟨⟨r, t1, ho, hp1, ?_, ?_⟩, hF.1, fun q h1 h2 => hF.2 q h1 (fun z => h2 (jL_AsubQ isC hC q z))⟩
    · rw [e1]; exact hP2.part is his
    · rw [e1]; exact hD2.part is hnd his
/-- a contract that answers the world in other words -/
theorem jL_re {S T : Type} {post : Int32 → S → Prop} {w1 : S → va_W} {post' : Int32 → T → Prop} {W' : T → va_W} {A : Nat → Prop} {Pc : Array Value → State → Prop}
    (hM : Met l y w rm Pc (va_Qi post (jw_B D cl A w1) A) 0 0 A) (hw : ∀ r u, post r u → ∃ t : T, post' r t ∧ w1 u = W' t) : Met l y w rm Pc (va_Qi post' (jw_B D cl A W') A) 0 0 A :=
  jL_mono hM (fun _ _ h => h) (fun a st o t _ ⟨⟨r, u, ho, hp, hP1, hD1⟩, hF⟩ => by
    obtain ⟨t1, hp1, e1⟩ := hw r u hp
    refine ⟨⟨r, t1, ho, hp1, ?_, ?_⟩, hF⟩
    · rw [← e1]; exact hP1
    · rw [← e1]; exact hD1) (fun _ h => h)
theorem jL_reV {S T : Type} {post : S → Prop} {w1 : S → va_W} {post' : T → Prop} {W' : T → va_W} {A : Nat → Prop} {Pc : Array Value → State → Prop}
    (hM : Met l y w rm Pc (va_Qv post (jw_B D cl A w1) A) 0 0 A) (hw : ∀ u, post u → ∃ t : T, post' t ∧ w1 u = W' t) : Met l y w rm Pc (va_Qv post' (jw_B D cl A W') A) 0 0 A :=
  jL_mono hM (fun _ _ h => h) (fun a st o t _ ⟨⟨u, ho, hp, hP1, hD1⟩, hF⟩ => by
    obtain ⟨t1, hp1, e1⟩ := hw u hp
    refine ⟨⟨t1, ho, hp1, ?_, ?_⟩, hF⟩
    · rw [← e1]; exact hP1
    · rw [← e1]; exact hD1) (fun _ h => h)
end JLF
/-- the class's world: state, contents of its clients' arrays, of the server's, of the line's rows -/
abbrev jL_T : Type := jt_S × (Nat → jt_X) × jt_Y × (Nat → Nat → Int32)
def jL_gc (f : Nat → Nat) : Nat → Option Nat := va_up (va_up (va_up (fun _ => none) 0 (some (f 2))) 1 (some (f 10))) 2 (some (f 18))
theorem jL_g0 {f : Nat → Nat} : jL_gc f 0 = some (f 2) := rfl
theorem jL_g1 {f : Nat → Nat} : jL_gc f 1 = some (f 10) := rfl
theorem jL_g2 {f : Nat → Nat} : jL_gc f 2 = some (f 18) := rfl
def jL_X (x : Nat) (f ad : Nat → Nat) (cI cZ cG cC : ClassId) (C0 C1 C2 : jt_C) (X0 X1 X2 : jt_X) (N up tr : Nat) (Y : jt_Y) (n : Nat) : va_W := [(x, .inr (5, [.ref (f 1), .ref (f 26), .ref (f 31)])), (f 1, .inl (cC, 3, .inr (.inr (.inr (.inr (jL_gc f)))))), (f 2, .inr (0, [.int (nI 0), .ref (f 3), .ref (f 5), .ref (f 9), .int (nI (jc_pn C0)), .int (nI (jc_bk C0)), .int (nI (jc_rv C0)), .int (nI (jc_on C0))])), (f 3, .inr (4, [.ref (f 4), .int (nI (jc_tx C0).2)])), (f 4, .inl (cI, 68, .inl X0.2.1)), (f 5, .inr (2, [.ref (f 6), .ref (f 7), .ref (f 8), .int (nI (jc_ln C0))])), (f 6, .inl (cI, 68, .inl X0.2.2.1)), (f 7, .inl (cI, 68, .inl X0.2.2.2.1)), (f 8, .inl (cZ, 68, .inl X0.2.2.2.2)), (f 9, .inl (cI, 8, .inl X0.1)), (f 10, .inr (0, [.int (nI 1), .ref (f 11), .ref (f 13), .ref (f 17), .int (nI (jc_pn C1)), .int (nI (jc_bk C1)), .int (nI (jc_rv C1)), .int (nI (jc_on C1))])), (f 11, .inr (4, [.ref (f 12), .int (nI (jc_tx C1).2)])), (f 12, .inl (cI, 68, .inl X1.2.1)), (f 13, .inr (2, [.ref (f 14), .ref (f 15), .ref (f 16), .int (nI (jc_ln C1))])), (f 14, .inl (cI, 68, .inl X1.2.2.1)), (f 15, .inl (cI, 68, .inl X1.2.2.2.1)), (f 16, .inl (cZ, 68, .inl X1.2.2.2.2)), (f 17, .inl (cI, 8, .inl X1.1)), (f 18, .inr (0, [.int (nI 2), .ref (f 19), .ref (f 21), .ref (f 25), .int (nI (jc_pn C2)), .int (nI (jc_bk C2)), .int (nI (jc_rv C2)), .int (nI (jc_on C2))])), (f 19, .inr (4, [.ref (f 20), .int (nI (jc_tx C2).2)])), (f 20, .inl (cI, 68, .inl X2.2.1)), (f 21, .inr (2, [.ref (f 22), .ref (f 23), .ref (f 24), .int (nI (jc_ln C2))])), (f 22, .inl (cI, 68, .inl X2.2.2.1)), (f 23, .inl (cI, 68, .inl X2.2.2.2.1)), (f 24, .inl (cZ, 68, .inl X2.2.2.2.2)), (f 25, .inl (cI, 8, .inl X2.1)), (f 26, .inr (3, [.ref (f 27), .ref (f 29), .ref (f 30), .int (nI N), .int (nI up), .int (nI tr)])), (f 27, .inr (4, [.ref (f 28), .int (nI Y.2.2.2.2)])), (f 28, .inl (cI, 68, .inl Y.2.2.1)), (f 29, .inl (cI, 60, .inl Y.1)), (f 30, .inl (cI, 60, .inl Y.2.1)), (f 31, .inr (1, [.ref (f 32), .int (nI n)])), (f 32, .inl (cG, 30, .inr (.inr (.inr (.inr (jx_o ad))))))]
abbrev jL_ty (cI cZ cG cC : ClassId) : List (ClassId × FieldType) := [(cI, .int), (cZ, .boolean), (cG, .array .int), (cC, .object "JointText$Client")]
def jL_XW (x : Nat) (f ad : Nat → Nat) (cI cZ cG cC : ClassId) (σ : jL_T) : va_W := jL_X x f ad cI cZ cG cC (js_cl σ.1 0) (js_cl σ.1 1) (js_cl σ.1 2) (σ.2.1 0) (σ.2.1 1) (σ.2.1 2) (js_N σ.1) (js_up σ.1) (js_tr σ.1) σ.2.2.1 (js_L σ.1).2 ++ jx_r ad cI σ.2.2.2
/-- what holds of the state: and the marks of the log are small -/
def jL_inv (S : jt_S) : Prop := jt_inv S ∧ ∀ c, c < 3 → ∀ i, jc_lf (js_cl S c) i < 4
def jL_I (σ : jL_T) : Prop := jL_inv σ.1 ∧ (∀ c, c < 3 → jt_rc (σ.2.1 c) (js_cl σ.1 c)) ∧ jt_rv σ.2.2.1 σ.1 ∧ jt_rm σ.2.2.2 (js_L σ.1)
theorem jL_XWe {x : Nat} {f ad : Nat → Nat} {cI cZ cG cC : ClassId} {S : jt_S} {X : Nat → jt_X} {Y : jt_Y} {M : Nat → Nat → Int32} {C0 C1 C2 : jt_C} {X0 X1 X2 : jt_X} {N up tr n : Nat} (h0 : js_cl S 0 = C0) (h1 : js_cl S 1 = C1) (h2 : js_cl S 2 = C2) (k0 : X 0 = X0) (k1 : X 1 = X1) (k2 : X 2 = X2) (hN : js_N S = N) (hu : js_up S = up) (ht : js_tr S = tr) (hn : (js_L S).2 = n) :
    jL_XW x f ad cI cZ cG cC (S, X, Y, M) = jL_X x f ad cI cZ cG cC C0 C1 C2 X0 X1 X2 N up tr Y n ++ jx_r ad cI M := by
  subst h0; subst h1; subst h2; subst k0; subst k1; subst k2; subst hN; subst hu; subst ht; subst hn
  rfl
theorem jL_rcu {X : Nat → jt_X} {cl : Nat → jt_C} {c : Nat} {u : jt_X} {C : jt_C} (h : ∀ d, d < 3 → jt_rc (X d) (cl d)) (hu : jt_rc u C) : ∀ d, d < 3 → jt_rc (va_up X c u d) (va_up cl c C d) := fun d hd => by
  by_cases e : d = c
  · rw [e, va_up_self, va_up_self]; exact hu
  · rw [va_up_ne _ _ e, va_up_ne _ _ e]; exact h d hd
/-- a method of the class, said of its whole world -/
def jL_XM (l : Launch) (D : va_G) (x : Nat) (f ad : Nat → Nat) (cI cZ cG cC : ClassId) (fr lo : Nat) (y : MethodName) (w : List Cond) (av : List Value) (σ : jL_T) (post : Int32 → jL_T → Prop) : Prop :=
  ∃ rm : Room, rm.cells = 0 ∧ rm.slots = 0 ∧ rm.frames ≤ fr ∧ rm.locals ≤ lo ∧ ∀ sz, Met l y w rm (jw_C (.ref x :: av) D jw_cl (jL_XW x f ad cI cZ cG cC σ) (jL_ty cI cZ cG cC) sz) (va_Qi post (jw_B D jw_cl (va_A (jL_XW x f ad cI cZ cG cC σ) sz) (jL_XW x f ad cI cZ cG cC)) (va_A (jL_XW x f ad cI cZ cG cC σ) sz)) 0 0 (va_A (jL_XW x f ad cI cZ cG cC σ) sz)
/-- the reference's world -/
abbrev jL_U : Type := jq_P × (Nat → Int32) × Int32 × Int32
def jL_M (xm : Nat) (g : Nat → Nat) (cI cZ : ClassId) (P : jq_P) (tx : Nat → Int32) (si cd : Int32) : va_W := [(xm, .inr (6, [.ref (g 0), .ref (g 1), .ref (g 2), .ref (g 3), .ref (g 4), .int (nI (jp_wr P)), .ref (g 5), .int (nI (jp_dn P)), .int (nI (jp_tr P)), .ref (g 6), .ref (g 7), .ref (g 8), .ref (g 9), .ref (g 10), .ref (g 11), .int (nI (jp_wa P)), .ref (g 12), .ref (g 13), .ref (g 14), .ref (g 15), .ref (g 16), .ref (g 17), .int si, .int cd])), (g 0, .inl (cI, 358, .inl (jq_k (jp_O P)))), (g 1, .inl (cI, 358, .inl (jq_p (jp_O P)))), (g 2, .inl (cI, 358, .inl (jq_l (jp_O P)))), (g 3, .inl (cI, 358, .inl (jq_s (jp_O P)))), (g 4, .inl (cI, 60, .inl (jq_n (jp_num P)))), (g 5, .inl (cI, 3, .inl (jq_n (jp_au P)))), (g 6, .inl (cI, 3, .inl (jq_n (jp_rv P)))), (g 7, .inl (cZ, 3, .inl (jq_n (jp_of P)))), (g 8, .inl (cI, 3, .inl (jq_n (jp_pn P)))), (g 9, .inl (cI, 3, .inl (jq_n (jp_bk P)))), (g 10, .inl (cI, 3, .inl (jq_n (jp_lg P)))), (g 11, .inl (cI, 240, .inl (jq_n (jp_wh P)))), (g 12, .inl (cI, 32, .inl (jq_m0 (jp_ms P)))), (g 13, .inl (cI, 32, .inl (jq_m1 (jp_ms P)))), (g 14, .inl (cI, 32, .inl (jq_m2 (jp_ms P)))), (g 15, .inl (cI, 32, .inl (jq_m3 (jp_ms P)))), (g 16, .inl (cI, 32, .inl (jq_m4 (jp_ms P)))), (g 17, .inl (cI, 90, .inl tx))]
def jL_MW (xm : Nat) (g : Nat → Nat) (cI cZ : ClassId) (τ : jL_U) : va_W := jL_M xm g cI cZ τ.1 τ.2.1 τ.2.2.1 τ.2.2.2
def jL_MM (l : Launch) (D : va_G) (xm : Nat) (g : Nat → Nat) (cI cZ : ClassId) (y : MethodName) (w : List Cond) (av : List Value) (τ : jL_U) (post : Int32 → jL_U → Prop) : Prop :=
  ∃ rm : Room, rm.cells = 0 ∧ rm.slots = 0 ∧ rm.frames ≤ 8 ∧ rm.locals ≤ 160 ∧ ∀ sz, Met l y w rm (jw_C (.ref xm :: av) D jw_cl (jL_MW xm g cI cZ τ) [(cI, .int), (cZ, .boolean)] sz) (va_Qi post (jw_B D jw_cl (va_A (jL_MW xm g cI cZ τ) sz) (jL_MW xm g cI cZ)) (va_A (jL_MW xm g cI cZ τ) sz)) 0 0 (va_A (jL_MW xm g cI cZ τ) sz)
section JLX
variable {l : Launch} {D : va_G} {x : Nat} {f ad : Nat → Nat} {cI cZ cG cC : ClassId} {fr lo : Nat} {y : MethodName} {w : List Cond} {av : List Value} {σ : jL_T} {rm : Room} {wc : va_W} {tyc : List (ClassId × FieldType)}
theorem jL_rdX {r : Int32} (hM : Met l y w rm (jw_P (.ref x :: av) D jw_cl wc tyc) (k2_QcV (.int r)) 0 0 (fun _ => False)) (hs : ∀ H, va_P D jw_cl (jL_XW x f ad cI cZ cG cC σ) H → va_P D jw_cl wc H) (isT : List Nat) (hT : isT.filterMap (fun i => (jL_ty cI cZ cG cC)[i]?) = tyc) (h1 : rm.cells = 0) (h2 : rm.slots = 0) (h3 : rm.frames ≤ fr) (h4 : rm.locals ≤ lo) : jL_XM l D x f ad cI cZ cG cC fr lo y w av σ (fun r' σ' => r' = r ∧ σ' = σ) :=
  ⟨rm, h1, h2, h3, h4, fun sz => jL_mono hM (fun a s ⟨e, hsz, hP, hK, hD⟩ => ⟨e, hs _ hP, hK.sub isT hT⟩) (fun a st o t ⟨e, hsz, hP, hK, hD⟩ ⟨h5, h6⟩ => ⟨⟨r, σ, h5, ⟨rfl, rfl⟩, by rw [h6]; exact hP, hD.self⟩, by rw [h6]; exact Nat.le_refl _, fun q _ _ => by rw [h6]⟩) (fun _ h => False.elim h)⟩
theorem jL_XMi {post post' : Int32 → jL_T → Prop} (h : jL_XM l D x f ad cI cZ cG cC fr lo y w av σ post) (hp : ∀ r t, post r t → post' r t) : jL_XM l D x f ad cI cZ cG cC fr lo y w av σ post' := by
  obtain ⟨rm, h1, h2, h3, h4, h5⟩ := h
  exact ⟨rm, h1, h2, h3, h4, fun sz => jL_mono (h5 sz) (fun _ _ h => h) (fun a st o t _ ⟨⟨r, u, ho, hp1, hB⟩, hF⟩ => ⟨⟨r, u, ho, hp r u hp1, hB⟩, hF⟩) (fun _ h => h)⟩
end JLX
section JLMM
variable {l : Launch} {D : va_G} {xm : Nat} {g : Nat → Nat} {cI cZ : ClassId} {y : MethodName} {w : List Cond} {av : List Value} {τ : jL_U} {rm : Room}
theorem jL_ofM {S : Type} {post : Int32 → S → Prop} {post' : Int32 → jL_U → Prop} {w1 : S → va_W} (hM : ∀ sz, Met l y w rm (jw_C (.ref xm :: av) D jw_cl (jL_MW xm g cI cZ τ) [(cI, .int), (cZ, .boolean)] sz) (va_Qi post (jw_B D jw_cl (va_A (jL_MW xm g cI cZ τ) sz) w1) (va_A (jL_MW xm g cI cZ τ) sz)) 0 0 (va_A (jL_MW xm g cI cZ τ) sz)) (h1 : rm.cells = 0) (h2 : rm.slots = 0) (h3 : rm.frames ≤ 8) (h4 : rm.locals ≤ 160) (hw : ∀ r u, post r u → ∃ t : jL_U, post' r t ∧ w1 u = jL_MW xm g cI cZ t) : jL_MM l D xm g cI cZ y w av τ post' :=
  ⟨rm, h1, h2, h3, h4, fun sz => jL_re (hM sz) hw⟩
theorem jL_MMi {post post' : Int32 → jL_U → Prop} (h : jL_MM l D xm g cI cZ y w av τ post) (hp : ∀ r t, post r t → post' r t) : jL_MM l D xm g cI cZ y w av τ post' := by
  obtain ⟨rm, h1, h2, h3, h4, h5⟩ := h
  exact ⟨rm, h1, h2, h3, h4, fun sz => jL_mono (h5 sz) (fun _ _ h => h) (fun a st o t _ ⟨⟨r, u, ho, hp1, hB⟩, hF⟩ => ⟨⟨r, u, ho, hp r u hp1, hB⟩, hF⟩) (fun _ h => h)⟩
end JLMM
