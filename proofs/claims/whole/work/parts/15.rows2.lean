section JW2
variable {p : Program} {l : Launch} {e : Env} {R : Room} {s : State} {m : MethodId} {args : Array Value} {below : List Frame} {meth : Method} {c : Code} {H : Heap} {locs : List Loc} {cells slots : Nat} {Q : State → Prop} {pc : Nat} {ls : Array Slot}
/-- a loop, its head at pc: the number falls, the rest as I says -/
theorem jw_loop (I : Nat → Array Slot → Heap → List Loc → Prop) (k0 : Nat) (h0 : I k0 ls H locs)
    (hs : ∀ (k : Nat) (ls : Array Slot) (H : Heap) (locs : List Loc), I k ls H locs → (∀ (k' : Nat) (ls' : Array Slot) (H' : Heap) (locs' : List Loc), k' < k → I k' ls' H' locs' → W p l e R s m args below meth c H' locs' cells slots Q (F0 m pc ls' [])) → W p l e R s m args below meth c H locs cells slots Q (F0 m pc ls [])) :
    W p l e R s m args below meth c H locs cells slots Q (F0 m pc ls []) := by
  induction k0 using Nat.strongRecOn generalizing ls H locs with
  | ind k ih => exact hs k ls H locs h0 (fun k' ls' H' locs' hk hI => ih k' hk hI)
/-- a loop that only reads -/
theorem jw_loopR (I : Nat → Array Slot → Prop) (k0 : Nat) (h0 : I k0 ls)
    (hs : ∀ (k : Nat) (ls : Array Slot), I k ls → (∀ (k' : Nat) (ls' : Array Slot), k' < k → I k' ls' → W p l e R s m args below meth c H locs cells slots Q (F0 m pc ls' [])) → W p l e R s m args below meth c H locs cells slots Q (F0 m pc ls [])) :
    W p l e R s m args below meth c H locs cells slots Q (F0 m pc ls []) := by
  induction k0 using Nat.strongRecOn generalizing ls with
  | ind k ih => exact hs k ls h0 (fun k' ls' hk hI => ih k' hk hI)
end JW2
theorem k_J_obj : Cond.methodLink jn_J 3 objectInit ∈ jw_tbl := jw_in 55 (by decide +kernel) (by decide +kernel)
theorem k_C_obj : Cond.methodLink jn_C 3 objectInit ∈ jw_tbl := jw_in 64 (by decide +kernel) (by decide +kernel)
theorem k_T_obj : Cond.methodLink jn_T 3 objectInit ∈ jw_tbl := jw_in 70 (by decide +kernel) (by decide +kernel)
theorem k_G_obj : Cond.methodLink jn_G 3 objectInit ∈ jw_tbl := jw_in 84 (by decide +kernel) (by decide +kernel)
theorem k_S_obj : Cond.methodLink jn_S 3 objectInit ∈ jw_tbl := jw_in 132 (by decide +kernel) (by decide +kernel)
theorem k_L_obj : Cond.methodLink jn_L 3 objectInit ∈ jw_tbl := jw_in 160 (by decide +kernel) (by decide +kernel)
theorem k_L_28 : Cond.methodLink jn_L 28 arraycopyName ∈ jw_tbl := jw_in 306 (by decide +kernel) (by decide +kernel)
theorem k_T_46 : Cond.methodLink jn_T 46 arraycopyName ∈ jw_tbl := jw_in 354 (by decide +kernel) (by decide +kernel)
theorem k_C_62 : Cond.methodLink jn_C 62 arraycopyName ∈ jw_tbl := jw_in 375 (by decide +kernel) (by decide +kernel)
theorem k_M_obj : Cond.methodLink jn_M 1 objectInit ∈ jw_tbl := jw_in 691 (by decide +kernel) (by decide +kernel)
theorem k_obj_i : Cond.instanceMethod objectInit ∈ jw_tbl := jw_in 56 (by decide +kernel) (by decide +kernel)
theorem k_obj_c : Cond.code objectInit ⟨#[0xb1]⟩ 1 none ∈ jw_tbl := jw_in 57 (by decide +kernel) (by decide +kernel)
theorem k_ac_s : Cond.static arraycopyName ∈ jw_tbl := jw_in 307 (by decide +kernel) (by decide +kernel)
theorem k_ac_n : Cond.native arraycopyName ∈ jw_tbl := jw_in 308 (by decide +kernel) (by decide +kernel)
theorem k_ac_i : Cond.initialized "java/lang/System" ∈ jw_tbl := jw_in 48 (by decide +kernel) (by decide +kernel)
