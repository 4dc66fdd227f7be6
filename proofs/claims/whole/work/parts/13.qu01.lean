abbrev rm_Qu_addLoad : Room := { frames := 0, cells := 0, slots := 0, locals := 0 }
set_option maxRecDepth 100000 in
set_option maxHeartbeats 4000000 in
theorem m_Qu_addLoad (l : Launch) (D : va_G) (K : Nat → ClassId) (q : Nat → Nat) (v : T_Qu) (a1 : Int32) (a2 : Int32) {o_v : T_Qu} (hf : f_Qu_addLoad v a1 a2 = some o_v) : MV l yX5_addLoad cX5_addLoad 4 (none) rm_Qu_addLoad D K [.ref (q 0), .int a1, .int a2] (cl_Qu K q v) (cl_Qu K q o_v) := by
  refine MV_of (loc0 := [(0, .ref (q 0)), (1, .int a1), (2, .int a2)]) (by decide +kernel) rfl (Nat.le_of_ble_eq_true rfl) ?_
  intro p e s m args below meth c A cx
  unfold f_Qu_addLoad at hf
  refine r_ws (ws' := [((q 0), ob 4 [.ref (q 1), .ref (q 2), .ref (q 3), .ref (q 4), .ref (q 5), .ref (q 6), .ref (q 7), .int (Qu_firstLoad v), .int (Qu_loads v), .int (Qu_firstBranch v), .int (Qu_branches v), .int (Qu_held v), .int (Qu_comparedHeld v)]), ((q 1), aI K 8 (Qu_loadAddress v)), ((q 2), aI K 8 (Qu_loadWord v)), ((q 3), aI K 8 (Qu_branch v)), ((q 4), aI K 8 (Qu_heldAddress v)), ((q 5), aI K 8 (Qu_heldWord v)), ((q 6), aI K 8 (Qu_besideAddress v)), ((q 7), aI K 8 (Qu_besideWord v))]) rfl ?_
  refine r_aload_n (pc := 0) cx dX5_addLoad_0 0 rfl ?_
  refine r_get (pc := 1) cx cf_X5 0 7 rfl (by decide) rfl wd_352 dX5_addLoad_1 ?_
  refine r_aload_n (pc := 4) cx dX5_addLoad_4 0 rfl ?_
  refine r_get (pc := 5) cx cf_X5 0 8 rfl (by decide) rfl wd_353 dX5_addLoad_5 ?_
  refine r_iadd (pc := 8) cx dX5_addLoad_8 ?_
  refine r_bipush (pc := 9) cx dX5_addLoad_9 bp_7 ?_
  refine r_iand (pc := 11) cx dX5_addLoad_11 ?_
  replace hf := nm_of hf
  obtain ⟨x1, ex1, hf⟩ := hf
  refine r_nm ex1 ?_
  refine r_istore_n (pc := 12) (loc' := [(3, .int x1), (0, .ref (q 0)), (1, .int a1), (2, .int a2)]) cx dX5_addLoad_12 rfl (by decide) rfl ?_
  refine r_aload_n (pc := 13) cx dX5_addLoad_13 1 rfl ?_
  refine r_get (pc := 14) cx cf_X5 0 0 rfl (by decide) rfl wd_343 dX5_addLoad_14 ?_
  refine r_iload_n (pc := 17) cx dX5_addLoad_17 0 rfl ?_
  refine r_iload_n (pc := 18) cx dX5_addLoad_18 2 rfl ?_
  replace hf := nm_of hf
  obtain ⟨f2, ef2, hf⟩ := hf
  refine r_iast (pc := 19) (ws' := [((q 0), ob 4 [.ref (q 1), .ref (q 2), .ref (q 3), .ref (q 4), .ref (q 5), .ref (q 6), .ref (q 7), .int (Qu_firstLoad v), .int (Qu_loads v), .int (Qu_firstBranch v), .int (Qu_branches v), .int (Qu_held v), .int (Qu_comparedHeld v)]), ((q 1), aI K 8 f2), ((q 2), aI K 8 (Qu_loadWord v)), ((q 3), aI K 8 (Qu_branch v)), ((q 4), aI K 8 (Qu_heldAddress v)), ((q 5), aI K 8 (Qu_heldWord v)), ((q 6), aI K 8 (Qu_besideAddress v)), ((q 7), aI K 8 (Qu_besideWord v))]) cx 1 rfl (by rw [ex1]; exact ix_and7 _) dX5_addLoad_19 ef2 rfl ?_
  refine r_aload_n (pc := 20) cx dX5_addLoad_20 1 rfl ?_
  refine r_get (pc := 21) cx cf_X5 0 1 rfl (by decide) rfl wd_344 dX5_addLoad_21 ?_
  refine r_iload_n (pc := 24) cx dX5_addLoad_24 0 rfl ?_
  refine r_iload_n (pc := 25) cx dX5_addLoad_25 3 rfl ?_
  replace hf := nm_of hf
  obtain ⟨f3, ef3, hf⟩ := hf
  refine r_iast (pc := 26) (ws' := [((q 0), ob 4 [.ref (q 1), .ref (q 2), .ref (q 3), .ref (q 4), .ref (q 5), .ref (q 6), .ref (q 7), .int (Qu_firstLoad v), .int (Qu_loads v), .int (Qu_firstBranch v), .int (Qu_branches v), .int (Qu_held v), .int (Qu_comparedHeld v)]), ((q 1), aI K 8 f2), ((q 2), aI K 8 f3), ((q 3), aI K 8 (Qu_branch v)), ((q 4), aI K 8 (Qu_heldAddress v)), ((q 5), aI K 8 (Qu_heldWord v)), ((q 6), aI K 8 (Qu_besideAddress v)), ((q 7), aI K 8 (Qu_besideWord v))]) cx 2 rfl (by rw [ex1]; exact ix_and7 _) dX5_addLoad_26 ef3 rfl ?_
  refine r_aload_n (pc := 27) cx dX5_addLoad_27 1 rfl ?_
  refine r_dup (pc := 28) cx dX5_addLoad_28 rfl ?_
  refine r_get (pc := 29) cx cf_X5 0 8 rfl (by decide) rfl wd_353 dX5_addLoad_29 ?_
  refine r_iconst (pc := 32) cx dX5_addLoad_32 ic_1 ?_
  refine r_iadd (pc := 33) cx dX5_addLoad_33 ?_
  replace hf := nm_of hf
  obtain ⟨x4, ex4, hf⟩ := hf
  refine r_nm ex4 ?_
  refine r_putI (pc := 34) (ws' := [((q 0), ob 4 [.ref (q 1), .ref (q 2), .ref (q 3), .ref (q 4), .ref (q 5), .ref (q 6), .ref (q 7), .int (Qu_firstLoad v), .int x4, .int (Qu_firstBranch v), .int (Qu_branches v), .int (Qu_held v), .int (Qu_comparedHeld v)]), ((q 1), aI K 8 f2), ((q 2), aI K 8 f3), ((q 3), aI K 8 (Qu_branch v)), ((q 4), aI K 8 (Qu_heldAddress v)), ((q 5), aI K 8 (Qu_heldWord v)), ((q 6), aI K 8 (Qu_besideAddress v)), ((q 7), aI K 8 (Qu_besideWord v))]) cx cf_X5 0 8 rfl (by decide) (Nat.le_of_ble_eq_true rfl) rfl pfd_I wd_353 dX5_addLoad_34 rfl ?_
  have hi := inj1 hf
  exact r_vret (pc := 37) cx (by rw [← hi]; (try simp only [cl_Qu, Qu_loadAddress_mk, Qu_loadWord_mk, Qu_branch_mk, Qu_heldAddress_mk, Qu_heldWord_mk, Qu_besideAddress_mk, Qu_besideWord_mk, Qu_firstLoad_mk, Qu_loads_mk, Qu_firstBranch_mk, Qu_branches_mk, Qu_held_mk, Qu_comparedHeld_mk, List.cons_append, List.nil_append, List.append_nil]) <;> rfl) dX5_addLoad_37
theorem yv_X5_addLoad : YV yX5_addLoad cX5_addLoad 4 (none) 2 := ⟨⟨by decide +kernel, by decide +kernel, by decide +kernel⟩, wd_879, wd_97, wd_877, wd_878⟩
abbrev rm_Qu_firstLoadAddress : Room := { frames := 0, cells := 0, slots := 0, locals := 0 }
set_option maxRecDepth 100000 in
set_option maxHeartbeats 4000000 in
theorem m_Qu_firstLoadAddress (l : Launch) (D : va_G) (K : Nat → ClassId) (q : Nat → Nat) (v : T_Qu) {r_ : Int32} (hf : f_Qu_firstLoadAddress v = some r_) : MI l yX5_firstLoadAddress cX5_firstLoadAddress 1 (some .int) rm_Qu_firstLoadAddress D K [.ref (q 0)] (cl_Qu K q v) r_ (cl_Qu K q v) := by
  refine MI_of (loc0 := [(0, .ref (q 0))]) (by decide +kernel) rfl (Nat.le_of_ble_eq_true rfl) ?_
  intro p e s m args below meth c A cx
  unfold f_Qu_firstLoadAddress at hf
  refine r_ws (ws' := [((q 0), ob 4 [.ref (q 1), .ref (q 2), .ref (q 3), .ref (q 4), .ref (q 5), .ref (q 6), .ref (q 7), .int (Qu_firstLoad v), .int (Qu_loads v), .int (Qu_firstBranch v), .int (Qu_branches v), .int (Qu_held v), .int (Qu_comparedHeld v)]), ((q 1), aI K 8 (Qu_loadAddress v)), ((q 2), aI K 8 (Qu_loadWord v)), ((q 3), aI K 8 (Qu_branch v)), ((q 4), aI K 8 (Qu_heldAddress v)), ((q 5), aI K 8 (Qu_heldWord v)), ((q 6), aI K 8 (Qu_besideAddress v)), ((q 7), aI K 8 (Qu_besideWord v))]) rfl ?_
  refine r_aload_n (pc := 0) cx dX5_firstLoadAddress_0 0 rfl ?_
  refine r_get (pc := 1) cx cf_X5 0 0 rfl (by decide) rfl wd_343 dX5_firstLoadAddress_1 ?_
  refine r_aload_n (pc := 4) cx dX5_firstLoadAddress_4 0 rfl ?_
  refine r_get (pc := 5) cx cf_X5 0 7 rfl (by decide) rfl wd_352 dX5_firstLoadAddress_5 ?_
  refine r_bipush (pc := 8) cx dX5_firstLoadAddress_8 bp_7 ?_
  refine r_iand (pc := 10) cx dX5_firstLoadAddress_10 ?_
  refine r_iald (pc := 11) cx 1 rfl (ix_and7 _) dX5_firstLoadAddress_11 ?_
  have hi := inj1 hf
  exact r_iret (pc := 12) cx hi rfl dX5_firstLoadAddress_12
theorem yv_X5_firstLoadAddress : YV yX5_firstLoadAddress cX5_firstLoadAddress 1 (some .int) 0 := ⟨⟨by decide +kernel, by decide +kernel, by decide +kernel⟩, wd_737, wd_97, wd_735, wd_736⟩
abbrev rm_Qu_removeLoad : Room := { frames := 0, cells := 0, slots := 0, locals := 0 }
set_option maxRecDepth 100000 in
set_option maxHeartbeats 4000000 in
theorem m_Qu_removeLoad (l : Launch) (D : va_G) (K : Nat → ClassId) (q : Nat → Nat) (v : T_Qu) {r_ : Int32} {o_v : T_Qu} (hf : f_Qu_removeLoad v = some (r_, o_v)) : MI l yX5_removeLoad cX5_removeLoad 2 (some .int) rm_Qu_removeLoad D K [.ref (q 0)] (cl_Qu K q v) r_ (cl_Qu K q o_v) := by
  refine MI_of (loc0 := [(0, .ref (q 0))]) (by decide +kernel) rfl (Nat.le_of_ble_eq_true rfl) ?_
  intro p e s m args below meth c A cx
  unfold f_Qu_removeLoad at hf
  refine r_ws (ws' := [((q 0), ob 4 [.ref (q 1), .ref (q 2), .ref (q 3), .ref (q 4), .ref (q 5), .ref (q 6), .ref (q 7), .int (Qu_firstLoad v), .int (Qu_loads v), .int (Qu_firstBranch v), .int (Qu_branches v), .int (Qu_held v), .int (Qu_comparedHeld v)]), ((q 1), aI K 8 (Qu_loadAddress v)), ((q 2), aI K 8 (Qu_loadWord v)), ((q 3), aI K 8 (Qu_branch v)), ((q 4), aI K 8 (Qu_heldAddress v)), ((q 5), aI K 8 (Qu_heldWord v)), ((q 6), aI K 8 (Qu_besideAddress v)), ((q 7), aI K 8 (Qu_besideWord v))]) rfl ?_
  refine r_aload_n (pc := 0) cx dX5_removeLoad_0 0 rfl ?_
  refine r_get (pc := 1) cx cf_X5 0 1 rfl (by decide) rfl wd_344 dX5_removeLoad_1 ?_
  refine r_aload_n (pc := 4) cx dX5_removeLoad_4 0 rfl ?_
  refine r_get (pc := 5) cx cf_X5 0 7 rfl (by decide) rfl wd_352 dX5_removeLoad_5 ?_
  refine r_bipush (pc := 8) cx dX5_removeLoad_8 bp_7 ?_
  refine r_iand (pc := 10) cx dX5_removeLoad_10 ?_
  refine r_iald (pc := 11) cx 2 rfl (ix_and7 _) dX5_removeLoad_11 ?_
  replace hf := nm_of hf
  obtain ⟨x1, ex1, hf⟩ := hf
  refine r_nm ex1 ?_
  refine r_istore_n (pc := 12) (loc' := [(1, .int x1), (0, .ref (q 0))]) cx dX5_removeLoad_12 rfl (by decide) rfl ?_
  refine r_aload_n (pc := 13) cx dX5_removeLoad_13 1 rfl ?_
  refine r_aload_n (pc := 14) cx dX5_removeLoad_14 1 rfl ?_
  refine r_get (pc := 15) cx cf_X5 0 7 rfl (by decide) rfl wd_352 dX5_removeLoad_15 ?_
  refine r_iconst (pc := 18) cx dX5_removeLoad_18 ic_1 ?_
  refine r_iadd (pc := 19) cx dX5_removeLoad_19 ?_
  refine r_bipush (pc := 20) cx dX5_removeLoad_20 bp_7 ?_
  refine r_iand (pc := 22) cx dX5_removeLoad_22 ?_
  replace hf := nm_of hf
  obtain ⟨x2, ex2, hf⟩ := hf
  refine r_nm ex2 ?_
  refine r_putI (pc := 23) (ws' := [((q 0), ob 4 [.ref (q 1), .ref (q 2), .ref (q 3), .ref (q 4), .ref (q 5), .ref (q 6), .ref (q 7), .int x2, .int (Qu_loads v), .int (Qu_firstBranch v), .int (Qu_branches v), .int (Qu_held v), .int (Qu_comparedHeld v)]), ((q 1), aI K 8 (Qu_loadAddress v)), ((q 2), aI K 8 (Qu_loadWord v)), ((q 3), aI K 8 (Qu_branch v)), ((q 4), aI K 8 (Qu_heldAddress v)), ((q 5), aI K 8 (Qu_heldWord v)), ((q 6), aI K 8 (Qu_besideAddress v)), ((q 7), aI K 8 (Qu_besideWord v))]) cx cf_X5 0 7 rfl (by decide) (Nat.le_of_ble_eq_true rfl) rfl pfd_I wd_352 dX5_removeLoad_23 rfl ?_
  refine r_aload_n (pc := 26) cx dX5_removeLoad_26 1 rfl ?_
  refine r_dup (pc := 27) cx dX5_removeLoad_27 rfl ?_
  refine r_get (pc := 28) cx cf_X5 0 8 rfl (by decide) rfl wd_353 dX5_removeLoad_28 ?_
  refine r_iconst (pc := 31) cx dX5_removeLoad_31 ic_1 ?_
  refine r_isub (pc := 32) cx dX5_removeLoad_32 ?_
  replace hf := nm_of hf
  obtain ⟨x3, ex3, hf⟩ := hf
  refine r_nm ex3 ?_
  refine r_putI (pc := 33) (ws' := [((q 0), ob 4 [.ref (q 1), .ref (q 2), .ref (q 3), .ref (q 4), .ref (q 5), .ref (q 6), .ref (q 7), .int x2, .int x3, .int (Qu_firstBranch v), .int (Qu_branches v), .int (Qu_held v), .int (Qu_comparedHeld v)]), ((q 1), aI K 8 (Qu_loadAddress v)), ((q 2), aI K 8 (Qu_loadWord v)), ((q 3), aI K 8 (Qu_branch v)), ((q 4), aI K 8 (Qu_heldAddress v)), ((q 5), aI K 8 (Qu_heldWord v)), ((q 6), aI K 8 (Qu_besideAddress v)), ((q 7), aI K 8 (Qu_besideWord v))]) cx cf_X5 0 8 rfl (by decide) (Nat.le_of_ble_eq_true rfl) rfl pfd_I wd_353 dX5_removeLoad_33 rfl ?_
  refine r_iload_n (pc := 36) cx dX5_removeLoad_36 0 rfl ?_
  have hi := inj2 hf
  exact r_iret (pc := 37) cx hi.1 (by rw [← hi.2]; (try simp only [cl_Qu, Qu_loadAddress_mk, Qu_loadWord_mk, Qu_branch_mk, Qu_heldAddress_mk, Qu_heldWord_mk, Qu_besideAddress_mk, Qu_besideWord_mk, Qu_firstLoad_mk, Qu_loads_mk, Qu_firstBranch_mk, Qu_branches_mk, Qu_held_mk, Qu_comparedHeld_mk, List.cons_append, List.nil_append, List.append_nil]) <;> rfl) dX5_removeLoad_37
theorem yv_X5_removeLoad : YV yX5_removeLoad cX5_removeLoad 2 (some .int) 0 := ⟨⟨by decide +kernel, by decide +kernel, by decide +kernel⟩, wd_792, wd_97, wd_790, wd_791⟩
abbrev rm_Qu_addBranch : Room := { frames := 0, cells := 0, slots := 0, locals := 0 }
set_option maxRecDepth 100000 in
set_option maxHeartbeats 4000000 in
theorem m_Qu_addBranch (l : Launch) (D : va_G) (K : Nat → ClassId) (q : Nat → Nat) (v : T_Qu) (a1 : Int32) {o_v : T_Qu} (hf : f_Qu_addBranch v a1 = some o_v) : MV l yX5_addBranch cX5_addBranch 2 (none) rm_Qu_addBranch D K [.ref (q 0), .int a1] (cl_Qu K q v) (cl_Qu K q o_v) := by
  refine MV_of (loc0 := [(0, .ref (q 0)), (1, .int a1)]) (by decide +kernel) rfl (Nat.le_of_ble_eq_true rfl) ?_
  intro p e s m args below meth c A cx
  unfold f_Qu_addBranch at hf
  refine r_ws (ws' := [((q 0), ob 4 [.ref (q 1), .ref (q 2), .ref (q 3), .ref (q 4), .ref (q 5), .ref (q 6), .ref (q 7), .int (Qu_firstLoad v), .int (Qu_loads v), .int (Qu_firstBranch v), .int (Qu_branches v), .int (Qu_held v), .int (Qu_comparedHeld v)]), ((q 1), aI K 8 (Qu_loadAddress v)), ((q 2), aI K 8 (Qu_loadWord v)), ((q 3), aI K 8 (Qu_branch v)), ((q 4), aI K 8 (Qu_heldAddress v)), ((q 5), aI K 8 (Qu_heldWord v)), ((q 6), aI K 8 (Qu_besideAddress v)), ((q 7), aI K 8 (Qu_besideWord v))]) rfl ?_
  refine r_aload_n (pc := 0) cx dX5_addBranch_0 0 rfl ?_
  refine r_get (pc := 1) cx cf_X5 0 2 rfl (by decide) rfl wd_345 dX5_addBranch_1 ?_
  refine r_aload_n (pc := 4) cx dX5_addBranch_4 0 rfl ?_
  refine r_get (pc := 5) cx cf_X5 0 9 rfl (by decide) rfl wd_356 dX5_addBranch_5 ?_
  refine r_aload_n (pc := 8) cx dX5_addBranch_8 0 rfl ?_
  refine r_get (pc := 9) cx cf_X5 0 10 rfl (by decide) rfl wd_357 dX5_addBranch_9 ?_
  refine r_iadd (pc := 12) cx dX5_addBranch_12 ?_
  refine r_bipush (pc := 13) cx dX5_addBranch_13 bp_7 ?_
  refine r_iand (pc := 15) cx dX5_addBranch_15 ?_
  refine r_iload_n (pc := 16) cx dX5_addBranch_16 1 rfl ?_
  replace hf := nm_of hf
  obtain ⟨J2, eJ2, hf⟩ := hf
  have hJ2 : ∀ (y1 : Int32), J2 y1 = some o_v → WW p l e rm_Qu_addBranch s m args below meth c D A 2 0 0 (MQ below (QV D K A (cl_Qu K q o_v)) args s 0 0 A) ([((q 0), ob 4 [.ref (q 1), .ref (q 2), .ref (q 3), .ref (q 4), .ref (q 5), .ref (q 6), .ref (q 7), .int (Qu_firstLoad v), .int (Qu_loads v), .int (Qu_firstBranch v), .int (Qu_branches v), .int (Qu_held v), .int (Qu_comparedHeld v)]), ((q 1), aI K 8 (Qu_loadAddress v)), ((q 2), aI K 8 (Qu_loadWord v)), ((q 3), aI K 8 (Qu_branch v)), ((q 4), aI K 8 (Qu_heldAddress v)), ((q 5), aI K 8 (Qu_heldWord v)), ((q 6), aI K 8 (Qu_besideAddress v)), ((q 7), aI K 8 (Qu_besideWord v))]) ([(0, .ref (q 0))]) ([.int y1, .int (((Qu_firstBranch v) + (Qu_branches v)) &&& (7 : Int32)), .ref (q 3)]) 25 := by
    clear hf
    intro y1 hf
    rw [eJ2] at hf
    replace hf := nm_of hf
    obtain ⟨f3, ef3, hf⟩ := hf
    refine r_iast (pc := 25) (ws' := [((q 0), ob 4 [.ref (q 1), .ref (q 2), .ref (q 3), .ref (q 4), .ref (q 5), .ref (q 6), .ref (q 7), .int (Qu_firstLoad v), .int (Qu_loads v), .int (Qu_firstBranch v), .int (Qu_branches v), .int (Qu_held v), .int (Qu_comparedHeld v)]), ((q 1), aI K 8 (Qu_loadAddress v)), ((q 2), aI K 8 (Qu_loadWord v)), ((q 3), aI K 8 f3), ((q 4), aI K 8 (Qu_heldAddress v)), ((q 5), aI K 8 (Qu_heldWord v)), ((q 6), aI K 8 (Qu_besideAddress v)), ((q 7), aI K 8 (Qu_besideWord v))]) cx 3 rfl (ix_and7 _) dX5_addBranch_25 ef3 rfl ?_
    refine r_aload_n (pc := 26) cx dX5_addBranch_26 0 rfl ?_
    refine r_dup (pc := 27) cx dX5_addBranch_27 rfl ?_
    refine r_get (pc := 28) cx cf_X5 0 10 rfl (by decide) rfl wd_357 dX5_addBranch_28 ?_
    refine r_iconst (pc := 31) cx dX5_addBranch_31 ic_1 ?_
    refine r_iadd (pc := 32) cx dX5_addBranch_32 ?_
    replace hf := nm_of hf
    obtain ⟨x4, ex4, hf⟩ := hf
    refine r_nm ex4 ?_
    refine r_putI (pc := 33) (ws' := [((q 0), ob 4 [.ref (q 1), .ref (q 2), .ref (q 3), .ref (q 4), .ref (q 5), .ref (q 6), .ref (q 7), .int (Qu_firstLoad v), .int (Qu_loads v), .int (Qu_firstBranch v), .int x4, .int (Qu_held v), .int (Qu_comparedHeld v)]), ((q 1), aI K 8 (Qu_loadAddress v)), ((q 2), aI K 8 (Qu_loadWord v)), ((q 3), aI K 8 f3), ((q 4), aI K 8 (Qu_heldAddress v)), ((q 5), aI K 8 (Qu_heldWord v)), ((q 6), aI K 8 (Qu_besideAddress v)), ((q 7), aI K 8 (Qu_besideWord v))]) cx cf_X5 0 10 rfl (by decide) (Nat.le_of_ble_eq_true rfl) rfl pfd_I wd_357 dX5_addBranch_33 rfl ?_
    have hi := inj1 hf
    exact r_vret (pc := 36) cx (by rw [← hi]; (try simp only [cl_Qu, Qu_loadAddress_mk, Qu_loadWord_mk, Qu_branch_mk, Qu_heldAddress_mk, Qu_heldWord_mk, Qu_besideAddress_mk, Qu_besideWord_mk, Qu_firstLoad_mk, Qu_loads_mk, Qu_firstBranch_mk, Qu_branches_mk, Qu_held_mk, Qu_comparedHeld_mk, List.cons_append, List.nil_append, List.append_nil]) <;> rfl) dX5_addBranch_36
  refine r_if_eq (pc := 17) (tgt := 24) cx dX5_addBranch_17 (by decide) (fun h5 => ?_) (fun h5 => ?_)
  · replace hf := ifp h5 hf
    refine r_iconst (pc := 24) cx dX5_addBranch_24 ic_0 ?_
    refine r_loc (loc' := [(0, .ref (q 0))]) [0] rfl ?_
    exact hJ2 _ hf
  · replace hf := ifn h5 hf
    refine r_iconst (pc := 20) cx dX5_addBranch_20 ic_1 ?_
    refine r_goto (pc := 21) (tgt := 25) cx dX5_addBranch_21 (by decide) ?_
    refine r_loc (loc' := [(0, .ref (q 0))]) [0] rfl ?_
    exact hJ2 _ hf
theorem yv_X5_addBranch : YV yX5_addBranch cX5_addBranch 2 (none) 1 := ⟨⟨by decide +kernel, by decide +kernel, by decide +kernel⟩, wd_883, wd_97, wd_881, wd_882⟩
abbrev rm_Qu_firstBranchGoes : Room := { frames := 0, cells := 0, slots := 0, locals := 0 }
set_option maxRecDepth 100000 in
set_option maxHeartbeats 4000000 in
theorem m_Qu_firstBranchGoes (l : Launch) (D : va_G) (K : Nat → ClassId) (q : Nat → Nat) (v : T_Qu) {r_ : Int32} (hf : f_Qu_firstBranchGoes v = some r_) : MI l yX5_firstBranchGoes cX5_firstBranchGoes 1 (some .boolean) rm_Qu_firstBranchGoes D K [.ref (q 0)] (cl_Qu K q v) r_ (cl_Qu K q v) := by
  refine MI_of (loc0 := [(0, .ref (q 0))]) (by decide +kernel) rfl (Nat.le_of_ble_eq_true rfl) ?_
  intro p e s m args below meth c A cx
  unfold f_Qu_firstBranchGoes at hf
  refine r_ws (ws' := [((q 0), ob 4 [.ref (q 1), .ref (q 2), .ref (q 3), .ref (q 4), .ref (q 5), .ref (q 6), .ref (q 7), .int (Qu_firstLoad v), .int (Qu_loads v), .int (Qu_firstBranch v), .int (Qu_branches v), .int (Qu_held v), .int (Qu_comparedHeld v)]), ((q 1), aI K 8 (Qu_loadAddress v)), ((q 2), aI K 8 (Qu_loadWord v)), ((q 3), aI K 8 (Qu_branch v)), ((q 4), aI K 8 (Qu_heldAddress v)), ((q 5), aI K 8 (Qu_heldWord v)), ((q 6), aI K 8 (Qu_besideAddress v)), ((q 7), aI K 8 (Qu_besideWord v))]) rfl ?_
  refine r_aload_n (pc := 0) cx dX5_firstBranchGoes_0 0 rfl ?_
  refine r_get (pc := 1) cx cf_X5 0 2 rfl (by decide) rfl wd_345 dX5_firstBranchGoes_1 ?_
  refine r_aload_n (pc := 4) cx dX5_firstBranchGoes_4 0 rfl ?_
  refine r_get (pc := 5) cx cf_X5 0 9 rfl (by decide) rfl wd_356 dX5_firstBranchGoes_5 ?_
  refine r_bipush (pc := 8) cx dX5_firstBranchGoes_8 bp_7 ?_
  refine r_iand (pc := 10) cx dX5_firstBranchGoes_10 ?_
  refine r_iald (pc := 11) cx 3 rfl (ix_and7 _) dX5_firstBranchGoes_11 ?_
  refine r_iconst (pc := 12) cx dX5_firstBranchGoes_12 ic_1 ?_
  refine r_icmp_ne (pc := 13) (tgt := 20) cx dX5_firstBranchGoes_13 (by decide) (fun h1 => ?_) (fun h1 => ?_)
  · replace hf := ifn h1 hf
    refine r_iconst (pc := 20) cx dX5_firstBranchGoes_20 ic_0 ?_
    have hi := inj1 hf
    exact r_zret (pc := 21) cx (Or.inl rfl) hi rfl dX5_firstBranchGoes_21
  · replace hf := ifp h1 hf
    refine r_iconst (pc := 16) cx dX5_firstBranchGoes_16 ic_1 ?_
    refine r_goto (pc := 17) (tgt := 21) cx dX5_firstBranchGoes_17 (by decide) ?_
    have hi := inj1 hf
    exact r_zret (pc := 21) cx (Or.inr rfl) hi rfl dX5_firstBranchGoes_21
theorem yv_X5_firstBranchGoes : YV yX5_firstBranchGoes cX5_firstBranchGoes 1 (some .boolean) 0 := ⟨⟨by decide +kernel, by decide +kernel, by decide +kernel⟩, wd_745, wd_97, wd_743, wd_744⟩
abbrev rm_Qu_removeBranch : Room := { frames := 0, cells := 0, slots := 0, locals := 0 }
set_option maxRecDepth 100000 in
set_option maxHeartbeats 4000000 in
theorem m_Qu_removeBranch (l : Launch) (D : va_G) (K : Nat → ClassId) (q : Nat → Nat) (v : T_Qu) {o_v : T_Qu} (hf : f_Qu_removeBranch v = some o_v) : MV l yX5_removeBranch cX5_removeBranch 1 (none) rm_Qu_removeBranch D K [.ref (q 0)] (cl_Qu K q v) (cl_Qu K q o_v) := by
  refine MV_of (loc0 := [(0, .ref (q 0))]) (by decide +kernel) rfl (Nat.le_of_ble_eq_true rfl) ?_
  intro p e s m args below meth c A cx
  unfold f_Qu_removeBranch at hf
  refine r_ws (ws' := [((q 0), ob 4 [.ref (q 1), .ref (q 2), .ref (q 3), .ref (q 4), .ref (q 5), .ref (q 6), .ref (q 7), .int (Qu_firstLoad v), .int (Qu_loads v), .int (Qu_firstBranch v), .int (Qu_branches v), .int (Qu_held v), .int (Qu_comparedHeld v)]), ((q 1), aI K 8 (Qu_loadAddress v)), ((q 2), aI K 8 (Qu_loadWord v)), ((q 3), aI K 8 (Qu_branch v)), ((q 4), aI K 8 (Qu_heldAddress v)), ((q 5), aI K 8 (Qu_heldWord v)), ((q 6), aI K 8 (Qu_besideAddress v)), ((q 7), aI K 8 (Qu_besideWord v))]) rfl ?_
  refine r_aload_n (pc := 0) cx dX5_removeBranch_0 0 rfl ?_
  refine r_aload_n (pc := 1) cx dX5_removeBranch_1 0 rfl ?_
  refine r_get (pc := 2) cx cf_X5 0 9 rfl (by decide) rfl wd_356 dX5_removeBranch_2 ?_
  refine r_iconst (pc := 5) cx dX5_removeBranch_5 ic_1 ?_
  refine r_iadd (pc := 6) cx dX5_removeBranch_6 ?_
  refine r_bipush (pc := 7) cx dX5_removeBranch_7 bp_7 ?_
  refine r_iand (pc := 9) cx dX5_removeBranch_9 ?_
  replace hf := nm_of hf
  obtain ⟨x1, ex1, hf⟩ := hf
  refine r_nm ex1 ?_
  refine r_putI (pc := 10) (ws' := [((q 0), ob 4 [.ref (q 1), .ref (q 2), .ref (q 3), .ref (q 4), .ref (q 5), .ref (q 6), .ref (q 7), .int (Qu_firstLoad v), .int (Qu_loads v), .int x1, .int (Qu_branches v), .int (Qu_held v), .int (Qu_comparedHeld v)]), ((q 1), aI K 8 (Qu_loadAddress v)), ((q 2), aI K 8 (Qu_loadWord v)), ((q 3), aI K 8 (Qu_branch v)), ((q 4), aI K 8 (Qu_heldAddress v)), ((q 5), aI K 8 (Qu_heldWord v)), ((q 6), aI K 8 (Qu_besideAddress v)), ((q 7), aI K 8 (Qu_besideWord v))]) cx cf_X5 0 9 rfl (by decide) (Nat.le_of_ble_eq_true rfl) rfl pfd_I wd_356 dX5_removeBranch_10 rfl ?_
  refine r_aload_n (pc := 13) cx dX5_removeBranch_13 0 rfl ?_
  refine r_dup (pc := 14) cx dX5_removeBranch_14 rfl ?_
  refine r_get (pc := 15) cx cf_X5 0 10 rfl (by decide) rfl wd_357 dX5_removeBranch_15 ?_
  refine r_iconst (pc := 18) cx dX5_removeBranch_18 ic_1 ?_
  refine r_isub (pc := 19) cx dX5_removeBranch_19 ?_
  replace hf := nm_of hf
  obtain ⟨x2, ex2, hf⟩ := hf
  refine r_nm ex2 ?_
  refine r_putI (pc := 20) (ws' := [((q 0), ob 4 [.ref (q 1), .ref (q 2), .ref (q 3), .ref (q 4), .ref (q 5), .ref (q 6), .ref (q 7), .int (Qu_firstLoad v), .int (Qu_loads v), .int x1, .int x2, .int (Qu_held v), .int (Qu_comparedHeld v)]), ((q 1), aI K 8 (Qu_loadAddress v)), ((q 2), aI K 8 (Qu_loadWord v)), ((q 3), aI K 8 (Qu_branch v)), ((q 4), aI K 8 (Qu_heldAddress v)), ((q 5), aI K 8 (Qu_heldWord v)), ((q 6), aI K 8 (Qu_besideAddress v)), ((q 7), aI K 8 (Qu_besideWord v))]) cx cf_X5 0 10 rfl (by decide) (Nat.le_of_ble_eq_true rfl) rfl pfd_I wd_357 dX5_removeBranch_20 rfl ?_
  have hi := inj1 hf
  exact r_vret (pc := 23) cx (by rw [← hi]; (try simp only [cl_Qu, Qu_loadAddress_mk, Qu_loadWord_mk, Qu_branch_mk, Qu_heldAddress_mk, Qu_heldWord_mk, Qu_besideAddress_mk, Qu_besideWord_mk, Qu_firstLoad_mk, Qu_loads_mk, Qu_firstBranch_mk, Qu_branches_mk, Qu_held_mk, Qu_comparedHeld_mk, List.cons_append, List.nil_append, List.append_nil]) <;> rfl) dX5_removeBranch_23
theorem yv_X5_removeBranch : YV yX5_removeBranch cX5_removeBranch 1 (none) 0 := ⟨⟨by decide +kernel, by decide +kernel, by decide +kernel⟩, wd_808, wd_97, wd_806, wd_807⟩
abbrev rm_Qu_hold : Room := { frames := 0, cells := 0, slots := 0, locals := 0 }
set_option maxRecDepth 100000 in
set_option maxHeartbeats 4000000 in
theorem m_Qu_hold (l : Launch) (D : va_G) (K : Nat → ClassId) (q : Nat → Nat) (v : T_Qu) (a1 : Int32) (a2 : Int32) {o_v : T_Qu} (hf : f_Qu_hold v a1 a2 = some o_v) : MV l yX5_hold cX5_hold 3 (none) rm_Qu_hold D K [.ref (q 0), .int a1, .int a2] (cl_Qu K q v) (cl_Qu K q o_v) := by
  refine MV_of (loc0 := [(0, .ref (q 0)), (1, .int a1), (2, .int a2)]) (by decide +kernel) rfl (Nat.le_of_ble_eq_true rfl) ?_
  intro p e s m args below meth c A cx
  unfold f_Qu_hold at hf
  refine r_ws (ws' := [((q 0), ob 4 [.ref (q 1), .ref (q 2), .ref (q 3), .ref (q 4), .ref (q 5), .ref (q 6), .ref (q 7), .int (Qu_firstLoad v), .int (Qu_loads v), .int (Qu_firstBranch v), .int (Qu_branches v), .int (Qu_held v), .int (Qu_comparedHeld v)]), ((q 1), aI K 8 (Qu_loadAddress v)), ((q 2), aI K 8 (Qu_loadWord v)), ((q 3), aI K 8 (Qu_branch v)), ((q 4), aI K 8 (Qu_heldAddress v)), ((q 5), aI K 8 (Qu_heldWord v)), ((q 6), aI K 8 (Qu_besideAddress v)), ((q 7), aI K 8 (Qu_besideWord v))]) rfl ?_
  refine r_aload_n (pc := 0) cx dX5_hold_0 0 rfl ?_
  refine r_get (pc := 1) cx cf_X5 0 3 rfl (by decide) rfl wd_346 dX5_hold_1 ?_
  refine r_aload_n (pc := 4) cx dX5_hold_4 0 rfl ?_
  refine r_get (pc := 5) cx cf_X5 0 11 rfl (by decide) rfl wd_360 dX5_hold_5 ?_
  refine r_bipush (pc := 8) cx dX5_hold_8 bp_7 ?_
  refine r_iand (pc := 10) cx dX5_hold_10 ?_
  refine r_iload_n (pc := 11) cx dX5_hold_11 1 rfl ?_
  replace hf := nm_of hf
  obtain ⟨f1, ef1, hf⟩ := hf
  refine r_iast (pc := 12) (ws' := [((q 0), ob 4 [.ref (q 1), .ref (q 2), .ref (q 3), .ref (q 4), .ref (q 5), .ref (q 6), .ref (q 7), .int (Qu_firstLoad v), .int (Qu_loads v), .int (Qu_firstBranch v), .int (Qu_branches v), .int (Qu_held v), .int (Qu_comparedHeld v)]), ((q 1), aI K 8 (Qu_loadAddress v)), ((q 2), aI K 8 (Qu_loadWord v)), ((q 3), aI K 8 (Qu_branch v)), ((q 4), aI K 8 f1), ((q 5), aI K 8 (Qu_heldWord v)), ((q 6), aI K 8 (Qu_besideAddress v)), ((q 7), aI K 8 (Qu_besideWord v))]) cx 4 rfl (ix_and7 _) dX5_hold_12 ef1 rfl ?_
  refine r_aload_n (pc := 13) cx dX5_hold_13 0 rfl ?_
  refine r_get (pc := 14) cx cf_X5 0 4 rfl (by decide) rfl wd_348 dX5_hold_14 ?_
  refine r_aload_n (pc := 17) cx dX5_hold_17 0 rfl ?_
  refine r_get (pc := 18) cx cf_X5 0 11 rfl (by decide) rfl wd_360 dX5_hold_18 ?_
  refine r_bipush (pc := 21) cx dX5_hold_21 bp_7 ?_
  refine r_iand (pc := 23) cx dX5_hold_23 ?_
  refine r_iload_n (pc := 24) cx dX5_hold_24 2 rfl ?_
  replace hf := nm_of hf
  obtain ⟨f2, ef2, hf⟩ := hf
  refine r_iast (pc := 25) (ws' := [((q 0), ob 4 [.ref (q 1), .ref (q 2), .ref (q 3), .ref (q 4), .ref (q 5), .ref (q 6), .ref (q 7), .int (Qu_firstLoad v), .int (Qu_loads v), .int (Qu_firstBranch v), .int (Qu_branches v), .int (Qu_held v), .int (Qu_comparedHeld v)]), ((q 1), aI K 8 (Qu_loadAddress v)), ((q 2), aI K 8 (Qu_loadWord v)), ((q 3), aI K 8 (Qu_branch v)), ((q 4), aI K 8 f1), ((q 5), aI K 8 f2), ((q 6), aI K 8 (Qu_besideAddress v)), ((q 7), aI K 8 (Qu_besideWord v))]) cx 5 rfl (ix_and7 _) dX5_hold_25 ef2 rfl ?_
  refine r_aload_n (pc := 26) cx dX5_hold_26 0 rfl ?_
  refine r_dup (pc := 27) cx dX5_hold_27 rfl ?_
  refine r_get (pc := 28) cx cf_X5 0 11 rfl (by decide) rfl wd_360 dX5_hold_28 ?_
  refine r_iconst (pc := 31) cx dX5_hold_31 ic_1 ?_
  refine r_iadd (pc := 32) cx dX5_hold_32 ?_
  replace hf := nm_of hf
  obtain ⟨x3, ex3, hf⟩ := hf
  refine r_nm ex3 ?_
  refine r_putI (pc := 33) (ws' := [((q 0), ob 4 [.ref (q 1), .ref (q 2), .ref (q 3), .ref (q 4), .ref (q 5), .ref (q 6), .ref (q 7), .int (Qu_firstLoad v), .int (Qu_loads v), .int (Qu_firstBranch v), .int (Qu_branches v), .int x3, .int (Qu_comparedHeld v)]), ((q 1), aI K 8 (Qu_loadAddress v)), ((q 2), aI K 8 (Qu_loadWord v)), ((q 3), aI K 8 (Qu_branch v)), ((q 4), aI K 8 f1), ((q 5), aI K 8 f2), ((q 6), aI K 8 (Qu_besideAddress v)), ((q 7), aI K 8 (Qu_besideWord v))]) cx cf_X5 0 11 rfl (by decide) (Nat.le_of_ble_eq_true rfl) rfl pfd_I wd_360 dX5_hold_33 rfl ?_
  have hi := inj1 hf
  exact r_vret (pc := 36) cx (by rw [← hi]; (try simp only [cl_Qu, Qu_loadAddress_mk, Qu_loadWord_mk, Qu_branch_mk, Qu_heldAddress_mk, Qu_heldWord_mk, Qu_besideAddress_mk, Qu_besideWord_mk, Qu_firstLoad_mk, Qu_loads_mk, Qu_firstBranch_mk, Qu_branches_mk, Qu_held_mk, Qu_comparedHeld_mk, List.cons_append, List.nil_append, List.append_nil]) <;> rfl) dX5_hold_36
theorem yv_X5_hold : YV yX5_hold cX5_hold 3 (none) 2 := ⟨⟨by decide +kernel, by decide +kernel, by decide +kernel⟩, wd_887, wd_97, wd_885, wd_886⟩
abbrev rm_Qu_isHeld : Room := { frames := 0, cells := 0, slots := 0, locals := 0 }
set_option maxRecDepth 100000 in
set_option maxHeartbeats 4000000 in
theorem m_Qu_isHeld (l : Launch) (D : va_G) (K : Nat → ClassId) (q : Nat → Nat) (v : T_Qu) (a1 : Int32) (a2 : Int32) {r_ : Int32} (hf : f_Qu_isHeld v a1 a2 = some r_) : MI l yX5_isHeld cX5_isHeld 3 (some .boolean) rm_Qu_isHeld D K [.ref (q 0), .int a1, .int a2] (cl_Qu K q v) r_ (cl_Qu K q v) := by
  refine MI_of (loc0 := [(0, .ref (q 0)), (1, .int a1), (2, .int a2)]) (by decide +kernel) rfl (Nat.le_of_ble_eq_true rfl) ?_
  intro p e s m args below meth c A cx
  unfold f_Qu_isHeld at hf
  refine r_ws (ws' := [((q 0), ob 4 [.ref (q 1), .ref (q 2), .ref (q 3), .ref (q 4), .ref (q 5), .ref (q 6), .ref (q 7), .int (Qu_firstLoad v), .int (Qu_loads v), .int (Qu_firstBranch v), .int (Qu_branches v), .int (Qu_held v), .int (Qu_comparedHeld v)]), ((q 1), aI K 8 (Qu_loadAddress v)), ((q 2), aI K 8 (Qu_loadWord v)), ((q 3), aI K 8 (Qu_branch v)), ((q 4), aI K 8 (Qu_heldAddress v)), ((q 5), aI K 8 (Qu_heldWord v)), ((q 6), aI K 8 (Qu_besideAddress v)), ((q 7), aI K 8 (Qu_besideWord v))]) rfl ?_
  refine r_aload_n (pc := 0) cx dX5_isHeld_0 0 rfl ?_
  refine r_get (pc := 1) cx cf_X5 0 3 rfl (by decide) rfl wd_346 dX5_isHeld_1 ?_
  refine r_aload_n (pc := 4) cx dX5_isHeld_4 0 rfl ?_
  refine r_get (pc := 5) cx cf_X5 0 12 rfl (by decide) rfl wd_363 dX5_isHeld_5 ?_
  refine r_bipush (pc := 8) cx dX5_isHeld_8 bp_7 ?_
  refine r_iand (pc := 10) cx dX5_isHeld_10 ?_
  refine r_iald (pc := 11) cx 4 rfl (ix_and7 _) dX5_isHeld_11 ?_
  refine r_iload_n (pc := 12) cx dX5_isHeld_12 1 rfl ?_
  refine r_icmp_ne (pc := 13) (tgt := 36) cx dX5_isHeld_13 (by decide) (fun h1 => ?_) (fun h1 => ?_)
  · replace hf := ifn h1 hf
    refine r_iconst (pc := 36) cx dX5_isHeld_36 ic_0 ?_
    have hi := inj1 hf
    exact r_zret (pc := 37) cx (Or.inl rfl) hi rfl dX5_isHeld_37
  · replace hf := ifp h1 hf
    refine r_aload_n (pc := 16) cx dX5_isHeld_16 0 rfl ?_
    refine r_get (pc := 17) cx cf_X5 0 4 rfl (by decide) rfl wd_348 dX5_isHeld_17 ?_
    refine r_aload_n (pc := 20) cx dX5_isHeld_20 0 rfl ?_
    refine r_get (pc := 21) cx cf_X5 0 12 rfl (by decide) rfl wd_363 dX5_isHeld_21 ?_
    refine r_bipush (pc := 24) cx dX5_isHeld_24 bp_7 ?_
    refine r_iand (pc := 26) cx dX5_isHeld_26 ?_
    refine r_iald (pc := 27) cx 5 rfl (ix_and7 _) dX5_isHeld_27 ?_
    refine r_iload_n (pc := 28) cx dX5_isHeld_28 2 rfl ?_
    refine r_icmp_ne (pc := 29) (tgt := 36) cx dX5_isHeld_29 (by decide) (fun h2 => ?_) (fun h2 => ?_)
    · replace hf := ifn h2 hf
      refine r_iconst (pc := 36) cx dX5_isHeld_36 ic_0 ?_
      have hi := inj1 hf
      exact r_zret (pc := 37) cx (Or.inl rfl) hi rfl dX5_isHeld_37
    · replace hf := ifp h2 hf
      refine r_iconst (pc := 32) cx dX5_isHeld_32 ic_1 ?_
      refine r_goto (pc := 33) (tgt := 37) cx dX5_isHeld_33 (by decide) ?_
      have hi := inj1 hf
      exact r_zret (pc := 37) cx (Or.inr rfl) hi rfl dX5_isHeld_37
theorem yv_X5_isHeld : YV yX5_isHeld cX5_isHeld 3 (some .boolean) 2 := ⟨⟨by decide +kernel, by decide +kernel, by decide +kernel⟩, wd_768, wd_97, wd_766, wd_767⟩
abbrev rm_Qu_layBeside : Room := { frames := 0, cells := 0, slots := 0, locals := 0 }
set_option maxRecDepth 100000 in
set_option maxHeartbeats 4000000 in
theorem m_Qu_layBeside (l : Launch) (D : va_G) (K : Nat → ClassId) (q : Nat → Nat) (v : T_Qu) (a1 : Int32) (a2 : Int32) {o_v : T_Qu} (hf : f_Qu_layBeside v a1 a2 = some o_v) : MV l yX5_layBeside cX5_layBeside 3 (none) rm_Qu_layBeside D K [.ref (q 0), .int a1, .int a2] (cl_Qu K q v) (cl_Qu K q o_v) := by
  refine MV_of (loc0 := [(0, .ref (q 0)), (1, .int a1), (2, .int a2)]) (by decide +kernel) rfl (Nat.le_of_ble_eq_true rfl) ?_
  intro p e s m args below meth c A cx
  unfold f_Qu_layBeside at hf
  refine r_ws (ws' := [((q 0), ob 4 [.ref (q 1), .ref (q 2), .ref (q 3), .ref (q 4), .ref (q 5), .ref (q 6), .ref (q 7), .int (Qu_firstLoad v), .int (Qu_loads v), .int (Qu_firstBranch v), .int (Qu_branches v), .int (Qu_held v), .int (Qu_comparedHeld v)]), ((q 1), aI K 8 (Qu_loadAddress v)), ((q 2), aI K 8 (Qu_loadWord v)), ((q 3), aI K 8 (Qu_branch v)), ((q 4), aI K 8 (Qu_heldAddress v)), ((q 5), aI K 8 (Qu_heldWord v)), ((q 6), aI K 8 (Qu_besideAddress v)), ((q 7), aI K 8 (Qu_besideWord v))]) rfl ?_
  refine r_aload_n (pc := 0) cx dX5_layBeside_0 0 rfl ?_
  refine r_get (pc := 1) cx cf_X5 0 5 rfl (by decide) rfl wd_350 dX5_layBeside_1 ?_
  refine r_aload_n (pc := 4) cx dX5_layBeside_4 0 rfl ?_
  refine r_get (pc := 5) cx cf_X5 0 12 rfl (by decide) rfl wd_363 dX5_layBeside_5 ?_
  refine r_bipush (pc := 8) cx dX5_layBeside_8 bp_7 ?_
  refine r_iand (pc := 10) cx dX5_layBeside_10 ?_
  refine r_iload_n (pc := 11) cx dX5_layBeside_11 1 rfl ?_
  replace hf := nm_of hf
  obtain ⟨f1, ef1, hf⟩ := hf
  refine r_iast (pc := 12) (ws' := [((q 0), ob 4 [.ref (q 1), .ref (q 2), .ref (q 3), .ref (q 4), .ref (q 5), .ref (q 6), .ref (q 7), .int (Qu_firstLoad v), .int (Qu_loads v), .int (Qu_firstBranch v), .int (Qu_branches v), .int (Qu_held v), .int (Qu_comparedHeld v)]), ((q 1), aI K 8 (Qu_loadAddress v)), ((q 2), aI K 8 (Qu_loadWord v)), ((q 3), aI K 8 (Qu_branch v)), ((q 4), aI K 8 (Qu_heldAddress v)), ((q 5), aI K 8 (Qu_heldWord v)), ((q 6), aI K 8 f1), ((q 7), aI K 8 (Qu_besideWord v))]) cx 6 rfl (ix_and7 _) dX5_layBeside_12 ef1 rfl ?_
  refine r_aload_n (pc := 13) cx dX5_layBeside_13 0 rfl ?_
  refine r_get (pc := 14) cx cf_X5 0 6 rfl (by decide) rfl wd_351 dX5_layBeside_14 ?_
  refine r_aload_n (pc := 17) cx dX5_layBeside_17 0 rfl ?_
  refine r_get (pc := 18) cx cf_X5 0 12 rfl (by decide) rfl wd_363 dX5_layBeside_18 ?_
  refine r_bipush (pc := 21) cx dX5_layBeside_21 bp_7 ?_
  refine r_iand (pc := 23) cx dX5_layBeside_23 ?_
  refine r_iload_n (pc := 24) cx dX5_layBeside_24 2 rfl ?_
  replace hf := nm_of hf
  obtain ⟨f2, ef2, hf⟩ := hf
  refine r_iast (pc := 25) (ws' := [((q 0), ob 4 [.ref (q 1), .ref (q 2), .ref (q 3), .ref (q 4), .ref (q 5), .ref (q 6), .ref (q 7), .int (Qu_firstLoad v), .int (Qu_loads v), .int (Qu_firstBranch v), .int (Qu_branches v), .int (Qu_held v), .int (Qu_comparedHeld v)]), ((q 1), aI K 8 (Qu_loadAddress v)), ((q 2), aI K 8 (Qu_loadWord v)), ((q 3), aI K 8 (Qu_branch v)), ((q 4), aI K 8 (Qu_heldAddress v)), ((q 5), aI K 8 (Qu_heldWord v)), ((q 6), aI K 8 f1), ((q 7), aI K 8 f2)]) cx 7 rfl (ix_and7 _) dX5_layBeside_25 ef2 rfl ?_
  refine r_aload_n (pc := 26) cx dX5_layBeside_26 0 rfl ?_
  refine r_dup (pc := 27) cx dX5_layBeside_27 rfl ?_
  refine r_get (pc := 28) cx cf_X5 0 12 rfl (by decide) rfl wd_363 dX5_layBeside_28 ?_
  refine r_iconst (pc := 31) cx dX5_layBeside_31 ic_1 ?_
  refine r_iadd (pc := 32) cx dX5_layBeside_32 ?_
  replace hf := nm_of hf
  obtain ⟨x3, ex3, hf⟩ := hf
  refine r_nm ex3 ?_
  refine r_putI (pc := 33) (ws' := [((q 0), ob 4 [.ref (q 1), .ref (q 2), .ref (q 3), .ref (q 4), .ref (q 5), .ref (q 6), .ref (q 7), .int (Qu_firstLoad v), .int (Qu_loads v), .int (Qu_firstBranch v), .int (Qu_branches v), .int (Qu_held v), .int x3]), ((q 1), aI K 8 (Qu_loadAddress v)), ((q 2), aI K 8 (Qu_loadWord v)), ((q 3), aI K 8 (Qu_branch v)), ((q 4), aI K 8 (Qu_heldAddress v)), ((q 5), aI K 8 (Qu_heldWord v)), ((q 6), aI K 8 f1), ((q 7), aI K 8 f2)]) cx cf_X5 0 12 rfl (by decide) (Nat.le_of_ble_eq_true rfl) rfl pfd_I wd_363 dX5_layBeside_33 rfl ?_
  have hi := inj1 hf
  exact r_vret (pc := 36) cx (by rw [← hi]; (try simp only [cl_Qu, Qu_loadAddress_mk, Qu_loadWord_mk, Qu_branch_mk, Qu_heldAddress_mk, Qu_heldWord_mk, Qu_besideAddress_mk, Qu_besideWord_mk, Qu_firstLoad_mk, Qu_loads_mk, Qu_firstBranch_mk, Qu_branches_mk, Qu_held_mk, Qu_comparedHeld_mk, List.cons_append, List.nil_append, List.append_nil]) <;> rfl) dX5_layBeside_36
theorem yv_X5_layBeside : YV yX5_layBeside cX5_layBeside 3 (none) 2 := ⟨⟨by decide +kernel, by decide +kernel, by decide +kernel⟩, wd_816, wd_97, wd_814, wd_815⟩
abbrev rm_Qu_lastHeld : Room := { frames := 1, cells := 0, slots := 0, locals := 23 }
set_option maxRecDepth 100000 in
set_option maxHeartbeats 4000000 in
theorem m_Qu_lastHeld (l : Launch) (D : va_G) (K : Nat → ClassId) (q : Nat → Nat) (v : T_Qu) (a1 : Int32) {r_ : Int32} (hf : f_Qu_lastHeld v a1 = some r_) : MI l yX5_lastHeld cX5_lastHeld 3 (some .int) rm_Qu_lastHeld D K [.ref (q 0), .int a1] (cl_Qu K q v) r_ (cl_Qu K q v) := by
  refine MI_of (loc0 := [(0, .ref (q 0)), (1, .int a1)]) (by decide +kernel) rfl (Nat.le_of_ble_eq_true rfl) ?_
  intro p e s m args below meth c A cx
  unfold f_Qu_lastHeld at hf
  refine r_ws (ws' := [((q 0), ob 4 [.ref (q 1), .ref (q 2), .ref (q 3), .ref (q 4), .ref (q 5), .ref (q 6), .ref (q 7), .int (Qu_firstLoad v), .int (Qu_loads v), .int (Qu_firstBranch v), .int (Qu_branches v), .int (Qu_held v), .int (Qu_comparedHeld v)]), ((q 1), aI K 8 (Qu_loadAddress v)), ((q 2), aI K 8 (Qu_loadWord v)), ((q 3), aI K 8 (Qu_branch v)), ((q 4), aI K 8 (Qu_heldAddress v)), ((q 5), aI K 8 (Qu_heldWord v)), ((q 6), aI K 8 (Qu_besideAddress v)), ((q 7), aI K 8 (Qu_besideWord v))]) rfl ?_
  refine r_aload_n (pc := 0) cx dX5_lastHeld_0 0 rfl ?_
  refine r_get (pc := 1) cx cf_X5 0 11 rfl (by decide) rfl wd_360 dX5_lastHeld_1 ?_
  refine r_bipush (pc := 4) cx dX5_lastHeld_4 bp_8 ?_
  refine r_mmin (pc := 6) cx wd_875 ys_J9_min_7cf53 (by decide) (Nat.le_of_ble_eq_true rfl) dX5_lastHeld_6 ?_
  replace hf := nm_of hf
  obtain ⟨x1, ex1, hf⟩ := hf
  refine r_nm ex1 ?_
  refine r_iconst (pc := 9) cx dX5_lastHeld_9 ic_1 ?_
  refine r_isub (pc := 10) cx dX5_lastHeld_10 ?_
  replace hf := nm_of hf
  obtain ⟨x2, ex2, hf⟩ := hf
  refine r_nm ex2 ?_
  refine r_istore_n (pc := 11) (loc' := [(2, .int x2), (0, .ref (q 0)), (1, .int a1)]) cx dX5_lastHeld_11 rfl (by decide) rfl ?_
  have hL12 : ∀ (k12_26 : Int32 → Option (Int32)) (k12_34 : Option (Int32)), (∀ (x4 : Int32), k12_26 x4 = some r_ → WW p l e rm_Qu_lastHeld s m args below meth c D A 3 0 0 (MQ below (QI D K A r_ (cl_Qu K q v)) args s 0 0 A) ([((q 0), ob 4 [.ref (q 1), .ref (q 2), .ref (q 3), .ref (q 4), .ref (q 5), .ref (q 6), .ref (q 7), .int (Qu_firstLoad v), .int (Qu_loads v), .int (Qu_firstBranch v), .int (Qu_branches v), .int (Qu_held v), .int (Qu_comparedHeld v)]), ((q 1), aI K 8 (Qu_loadAddress v)), ((q 2), aI K 8 (Qu_loadWord v)), ((q 3), aI K 8 (Qu_branch v)), ((q 4), aI K 8 (Qu_heldAddress v)), ((q 5), aI K 8 (Qu_heldWord v)), ((q 6), aI K 8 (Qu_besideAddress v)), ((q 7), aI K 8 (Qu_besideWord v))]) ([(2, .int x4)]) ([]) 26) → (k12_34 = some r_ → WW p l e rm_Qu_lastHeld s m args below meth c D A 3 0 0 (MQ below (QI D K A r_ (cl_Qu K q v)) args s 0 0 A) ([((q 0), ob 4 [.ref (q 1), .ref (q 2), .ref (q 3), .ref (q 4), .ref (q 5), .ref (q 6), .ref (q 7), .int (Qu_firstLoad v), .int (Qu_loads v), .int (Qu_firstBranch v), .int (Qu_branches v), .int (Qu_held v), .int (Qu_comparedHeld v)]), ((q 1), aI K 8 (Qu_loadAddress v)), ((q 2), aI K 8 (Qu_loadWord v)), ((q 3), aI K 8 (Qu_branch v)), ((q 4), aI K 8 (Qu_heldAddress v)), ((q 5), aI K 8 (Qu_heldWord v)), ((q 6), aI K 8 (Qu_besideAddress v)), ((q 7), aI K 8 (Qu_besideWord v))]) ([]) ([]) 34) → ∀ (n12 : Nat) (x3 : Int32), f_Qu_lastHeld_L12 v a1 k12_26 k12_34 n12 x3 = some r_ → WW p l e rm_Qu_lastHeld s m args below meth c D A 3 0 0 (MQ below (QI D K A r_ (cl_Qu K q v)) args s 0 0 A) ([((q 0), ob 4 [.ref (q 1), .ref (q 2), .ref (q 3), .ref (q 4), .ref (q 5), .ref (q 6), .ref (q 7), .int (Qu_firstLoad v), .int (Qu_loads v), .int (Qu_firstBranch v), .int (Qu_branches v), .int (Qu_held v), .int (Qu_comparedHeld v)]), ((q 1), aI K 8 (Qu_loadAddress v)), ((q 2), aI K 8 (Qu_loadWord v)), ((q 3), aI K 8 (Qu_branch v)), ((q 4), aI K 8 (Qu_heldAddress v)), ((q 5), aI K 8 (Qu_heldWord v)), ((q 6), aI K 8 (Qu_besideAddress v)), ((q 7), aI K 8 (Qu_besideWord v))]) ([(0, .ref (q 0)), (1, .int a1), (2, .int x3)]) ([]) 12 := by
    clear hf
    intro k12_26 k12_34 hk12_26 hk12_34 n12
    induction n12 with
    | zero => intro x3 hf; exact (nomatch (show (none : Option (Int32)) = some _ from hf))
    | succ n12 ih12 =>
      intro x3 hf
      rw [f_Qu_lastHeld_L12] at hf
      refine r_iload_n (pc := 12) cx dX5_lastHeld_12 2 rfl ?_
      refine r_if_lt (pc := 13) (tgt := 34) cx dX5_lastHeld_13 (by decide) (fun h5 => ?_) (fun h5 => ?_)
      · replace hf := ifp h5 hf
        refine r_loc (loc' := []) [] rfl ?_
        exact hk12_34 hf
      · replace hf := ifn h5 hf
        refine r_aload_n (pc := 16) cx dX5_lastHeld_16 0 rfl ?_
        refine r_get (pc := 17) cx cf_X5 0 3 rfl (by decide) rfl wd_346 dX5_lastHeld_17 ?_
        refine r_iload_n (pc := 20) cx dX5_lastHeld_20 2 rfl ?_
        replace hf := chk_of hf
        obtain ⟨h6, hf⟩ := hf
        refine r_iald (pc := 21) cx 4 rfl h6 dX5_lastHeld_21 ?_
        refine r_iload_n (pc := 22) cx dX5_lastHeld_22 1 rfl ?_
        refine r_icmp_ne (pc := 23) (tgt := 28) cx dX5_lastHeld_23 (by decide) (fun h7 => ?_) (fun h7 => ?_)
        · replace hf := ifn h7 hf
          replace hf := nm_of hf
          obtain ⟨x8, ex8, hf⟩ := hf
          refine r_iinc (pc := 28) (loc' := [(2, .int x8), (0, .ref (q 0)), (1, .int a1)]) (v := x8) cx dX5_lastHeld_28 2 rfl ((congrArg (fun z => x3 + z) ic_m1).trans ex8.symm) (by decide) rfl ?_
          refine r_goto (pc := 31) (tgt := 12) cx dX5_lastHeld_31 (by decide) ?_
          refine r_loc (loc' := [(0, .ref (q 0)), (1, .int a1), (2, .int x8)]) [1, 2, 0] rfl ?_
          exact ih12 _ hf
        · replace hf := ifp h7 hf
          refine r_loc (loc' := [(2, .int x3)]) [2] rfl ?_
          exact hk12_26 _ hf
  refine r_loc (loc' := [(0, .ref (q 0)), (1, .int a1), (2, .int x2)]) [1, 2, 0] rfl ?_
  refine hL12 _ _ (fun x4 hf => ?_) (fun hf => ?_) _ _ hf
  · refine r_iload_n (pc := 26) cx dX5_lastHeld_26 0 rfl ?_
    have hi := inj1 hf
    exact r_iret (pc := 27) cx hi rfl dX5_lastHeld_27
  · refine r_iconst (pc := 34) cx dX5_lastHeld_34 ic_m1 ?_
    have hi := inj1 hf
    exact r_iret (pc := 35) cx hi rfl dX5_lastHeld_35
theorem yv_X5_lastHeld : YV yX5_lastHeld cX5_lastHeld 3 (some .int) 1 := ⟨⟨by decide +kernel, by decide +kernel, by decide +kernel⟩, wd_874, wd_97, wd_872, wd_873⟩
abbrev rm_Qu_allCompared : Room := { frames := 0, cells := 0, slots := 0, locals := 0 }
set_option maxRecDepth 100000 in
set_option maxHeartbeats 4000000 in
theorem m_Qu_allCompared (l : Launch) (D : va_G) (K : Nat → ClassId) (q : Nat → Nat) (v : T_Qu) {r_ : Int32} (hf : f_Qu_allCompared v = some r_) : MI l yX5_allCompared cX5_allCompared 1 (some .boolean) rm_Qu_allCompared D K [.ref (q 0)] (cl_Qu K q v) r_ (cl_Qu K q v) := by
  refine MI_of (loc0 := [(0, .ref (q 0))]) (by decide +kernel) rfl (Nat.le_of_ble_eq_true rfl) ?_
  intro p e s m args below meth c A cx
  unfold f_Qu_allCompared at hf
  refine r_ws (ws' := [((q 0), ob 4 [.ref (q 1), .ref (q 2), .ref (q 3), .ref (q 4), .ref (q 5), .ref (q 6), .ref (q 7), .int (Qu_firstLoad v), .int (Qu_loads v), .int (Qu_firstBranch v), .int (Qu_branches v), .int (Qu_held v), .int (Qu_comparedHeld v)]), ((q 1), aI K 8 (Qu_loadAddress v)), ((q 2), aI K 8 (Qu_loadWord v)), ((q 3), aI K 8 (Qu_branch v)), ((q 4), aI K 8 (Qu_heldAddress v)), ((q 5), aI K 8 (Qu_heldWord v)), ((q 6), aI K 8 (Qu_besideAddress v)), ((q 7), aI K 8 (Qu_besideWord v))]) rfl ?_
  refine r_aload_n (pc := 0) cx dX5_allCompared_0 0 rfl ?_
  refine r_get (pc := 1) cx cf_X5 0 8 rfl (by decide) rfl wd_353 dX5_allCompared_1 ?_
  refine r_if_ne (pc := 4) (tgt := 29) cx dX5_allCompared_4 (by decide) (fun h1 => ?_) (fun h1 => ?_)
  · replace hf := ifn h1 hf
    refine r_iconst (pc := 29) cx dX5_allCompared_29 ic_0 ?_
    have hi := inj1 hf
    exact r_zret (pc := 30) cx (Or.inl rfl) hi rfl dX5_allCompared_30
  · replace hf := ifp h1 hf
    refine r_aload_n (pc := 7) cx dX5_allCompared_7 0 rfl ?_
    refine r_get (pc := 8) cx cf_X5 0 10 rfl (by decide) rfl wd_357 dX5_allCompared_8 ?_
    refine r_if_ne (pc := 11) (tgt := 29) cx dX5_allCompared_11 (by decide) (fun h2 => ?_) (fun h2 => ?_)
    · replace hf := ifn h2 hf
      refine r_iconst (pc := 29) cx dX5_allCompared_29 ic_0 ?_
      have hi := inj1 hf
      exact r_zret (pc := 30) cx (Or.inl rfl) hi rfl dX5_allCompared_30
    · replace hf := ifp h2 hf
      refine r_aload_n (pc := 14) cx dX5_allCompared_14 0 rfl ?_
      refine r_get (pc := 15) cx cf_X5 0 12 rfl (by decide) rfl wd_363 dX5_allCompared_15 ?_
      refine r_aload_n (pc := 18) cx dX5_allCompared_18 0 rfl ?_
      refine r_get (pc := 19) cx cf_X5 0 11 rfl (by decide) rfl wd_360 dX5_allCompared_19 ?_
      refine r_icmp_ne (pc := 22) (tgt := 29) cx dX5_allCompared_22 (by decide) (fun h3 => ?_) (fun h3 => ?_)
      · replace hf := ifn h3 hf
        refine r_iconst (pc := 29) cx dX5_allCompared_29 ic_0 ?_
        have hi := inj1 hf
        exact r_zret (pc := 30) cx (Or.inl rfl) hi rfl dX5_allCompared_30
      · replace hf := ifp h3 hf
        refine r_iconst (pc := 25) cx dX5_allCompared_25 ic_1 ?_
        refine r_goto (pc := 26) (tgt := 30) cx dX5_allCompared_26 (by decide) ?_
        have hi := inj1 hf
        exact r_zret (pc := 30) cx (Or.inr rfl) hi rfl dX5_allCompared_30
theorem yv_X5_allCompared : YV yX5_allCompared cX5_allCompared 1 (some .boolean) 0 := ⟨⟨by decide +kernel, by decide +kernel, by decide +kernel⟩, wd_780, wd_97, wd_778, wd_779⟩
abbrev rm_Qu_allSame : Room := { frames := 0, cells := 0, slots := 0, locals := 0 }
set_option maxRecDepth 100000 in
set_option maxHeartbeats 4000000 in
theorem m_Qu_allSame (l : Launch) (D : va_G) (K : Nat → ClassId) (q : Nat → Nat) (v : T_Qu) {r_ : Int32} (hf : f_Qu_allSame v = some r_) : MI l yX5_allSame cX5_allSame 2 (some .boolean) rm_Qu_allSame D K [.ref (q 0)] (cl_Qu K q v) r_ (cl_Qu K q v) := by
  refine MI_of (loc0 := [(0, .ref (q 0))]) (by decide +kernel) rfl (Nat.le_of_ble_eq_true rfl) ?_
  intro p e s m args below meth c A cx
  unfold f_Qu_allSame at hf
  refine r_ws (ws' := [((q 0), ob 4 [.ref (q 1), .ref (q 2), .ref (q 3), .ref (q 4), .ref (q 5), .ref (q 6), .ref (q 7), .int (Qu_firstLoad v), .int (Qu_loads v), .int (Qu_firstBranch v), .int (Qu_branches v), .int (Qu_held v), .int (Qu_comparedHeld v)]), ((q 1), aI K 8 (Qu_loadAddress v)), ((q 2), aI K 8 (Qu_loadWord v)), ((q 3), aI K 8 (Qu_branch v)), ((q 4), aI K 8 (Qu_heldAddress v)), ((q 5), aI K 8 (Qu_heldWord v)), ((q 6), aI K 8 (Qu_besideAddress v)), ((q 7), aI K 8 (Qu_besideWord v))]) rfl ?_
  refine r_iconst (pc := 0) cx dX5_allSame_0 ic_0 ?_
  refine r_istore_n (pc := 1) (loc' := [(1, .int (0 : Int32)), (0, .ref (q 0))]) cx dX5_allSame_1 rfl (by decide) rfl ?_
  have hL2 : ∀ (k2_46 : Option (Int32)) (k2_54 : Option (Int32)), (k2_46 = some r_ → WW p l e rm_Qu_allSame s m args below meth c D A 2 0 0 (MQ below (QI D K A r_ (cl_Qu K q v)) args s 0 0 A) ([((q 0), ob 4 [.ref (q 1), .ref (q 2), .ref (q 3), .ref (q 4), .ref (q 5), .ref (q 6), .ref (q 7), .int (Qu_firstLoad v), .int (Qu_loads v), .int (Qu_firstBranch v), .int (Qu_branches v), .int (Qu_held v), .int (Qu_comparedHeld v)]), ((q 1), aI K 8 (Qu_loadAddress v)), ((q 2), aI K 8 (Qu_loadWord v)), ((q 3), aI K 8 (Qu_branch v)), ((q 4), aI K 8 (Qu_heldAddress v)), ((q 5), aI K 8 (Qu_heldWord v)), ((q 6), aI K 8 (Qu_besideAddress v)), ((q 7), aI K 8 (Qu_besideWord v))]) ([]) ([]) 46) → (k2_54 = some r_ → WW p l e rm_Qu_allSame s m args below meth c D A 2 0 0 (MQ below (QI D K A r_ (cl_Qu K q v)) args s 0 0 A) ([((q 0), ob 4 [.ref (q 1), .ref (q 2), .ref (q 3), .ref (q 4), .ref (q 5), .ref (q 6), .ref (q 7), .int (Qu_firstLoad v), .int (Qu_loads v), .int (Qu_firstBranch v), .int (Qu_branches v), .int (Qu_held v), .int (Qu_comparedHeld v)]), ((q 1), aI K 8 (Qu_loadAddress v)), ((q 2), aI K 8 (Qu_loadWord v)), ((q 3), aI K 8 (Qu_branch v)), ((q 4), aI K 8 (Qu_heldAddress v)), ((q 5), aI K 8 (Qu_heldWord v)), ((q 6), aI K 8 (Qu_besideAddress v)), ((q 7), aI K 8 (Qu_besideWord v))]) ([]) ([]) 54) → ∀ (n2 : Nat) (x1 : Int32), f_Qu_allSame_L2 v k2_46 k2_54 n2 x1 = some r_ → WW p l e rm_Qu_allSame s m args below meth c D A 2 0 0 (MQ below (QI D K A r_ (cl_Qu K q v)) args s 0 0 A) ([((q 0), ob 4 [.ref (q 1), .ref (q 2), .ref (q 3), .ref (q 4), .ref (q 5), .ref (q 6), .ref (q 7), .int (Qu_firstLoad v), .int (Qu_loads v), .int (Qu_firstBranch v), .int (Qu_branches v), .int (Qu_held v), .int (Qu_comparedHeld v)]), ((q 1), aI K 8 (Qu_loadAddress v)), ((q 2), aI K 8 (Qu_loadWord v)), ((q 3), aI K 8 (Qu_branch v)), ((q 4), aI K 8 (Qu_heldAddress v)), ((q 5), aI K 8 (Qu_heldWord v)), ((q 6), aI K 8 (Qu_besideAddress v)), ((q 7), aI K 8 (Qu_besideWord v))]) ([(0, .ref (q 0)), (1, .int x1)]) ([]) 2 := by
    clear hf
    intro k2_46 k2_54 hk2_46 hk2_54 n2
    induction n2 with
    | zero => intro x1 hf; exact (nomatch (show (none : Option (Int32)) = some _ from hf))
    | succ n2 ih2 =>
      intro x1 hf
      rw [f_Qu_allSame_L2] at hf
      refine r_iload_n (pc := 2) cx dX5_allSame_2 1 rfl ?_
      refine r_aload_n (pc := 3) cx dX5_allSame_3 0 rfl ?_
      refine r_get (pc := 4) cx cf_X5 0 11 rfl (by decide) rfl wd_360 dX5_allSame_4 ?_
      refine r_icmp_ge (pc := 7) (tgt := 54) cx dX5_allSame_7 (by decide) (fun h2 => ?_) (fun h2 => ?_)
      · replace hf := ifp h2 hf
        refine r_loc (loc' := []) [] rfl ?_
        exact hk2_54 hf
      · replace hf := ifn h2 hf
        refine r_iload_n (pc := 10) cx dX5_allSame_10 1 rfl ?_
        refine r_bipush (pc := 11) cx dX5_allSame_11 bp_8 ?_
        refine r_icmp_ge (pc := 13) (tgt := 54) cx dX5_allSame_13 (by decide) (fun h3 => ?_) (fun h3 => ?_)
        · replace hf := ifp h3 hf
          refine r_loc (loc' := []) [] rfl ?_
          exact hk2_54 hf
        · replace hf := ifn h3 hf
          refine r_aload_n (pc := 16) cx dX5_allSame_16 0 rfl ?_
          refine r_get (pc := 17) cx cf_X5 0 3 rfl (by decide) rfl wd_346 dX5_allSame_17 ?_
          refine r_iload_n (pc := 20) cx dX5_allSame_20 1 rfl ?_
          replace hf := chk_of hf
          obtain ⟨h4, hf⟩ := hf
          refine r_iald (pc := 21) cx 4 rfl h4 dX5_allSame_21 ?_
          refine r_aload_n (pc := 22) cx dX5_allSame_22 0 rfl ?_
          refine r_get (pc := 23) cx cf_X5 0 5 rfl (by decide) rfl wd_350 dX5_allSame_23 ?_
          refine r_iload_n (pc := 26) cx dX5_allSame_26 1 rfl ?_
          replace hf := chk_of hf
          obtain ⟨h5, hf⟩ := hf
          refine r_iald (pc := 27) cx 6 rfl h5 dX5_allSame_27 ?_
          refine r_icmp_ne (pc := 28) (tgt := 46) cx dX5_allSame_28 (by decide) (fun h6 => ?_) (fun h6 => ?_)
          · replace hf := ifn h6 hf
            refine r_loc (loc' := []) [] rfl ?_
            exact hk2_46 hf
          · replace hf := ifp h6 hf
            refine r_aload_n (pc := 31) cx dX5_allSame_31 0 rfl ?_
            refine r_get (pc := 32) cx cf_X5 0 4 rfl (by decide) rfl wd_348 dX5_allSame_32 ?_
            refine r_iload_n (pc := 35) cx dX5_allSame_35 1 rfl ?_
            replace hf := chk_of hf
            obtain ⟨h7, hf⟩ := hf
            refine r_iald (pc := 36) cx 5 rfl h7 dX5_allSame_36 ?_
            refine r_aload_n (pc := 37) cx dX5_allSame_37 0 rfl ?_
            refine r_get (pc := 38) cx cf_X5 0 6 rfl (by decide) rfl wd_351 dX5_allSame_38 ?_
            refine r_iload_n (pc := 41) cx dX5_allSame_41 1 rfl ?_
            replace hf := chk_of hf
            obtain ⟨h8, hf⟩ := hf
            refine r_iald (pc := 42) cx 7 rfl h8 dX5_allSame_42 ?_
            refine r_icmp_eq (pc := 43) (tgt := 48) cx dX5_allSame_43 (by decide) (fun h9 => ?_) (fun h9 => ?_)
            · replace hf := ifp h9 hf
              replace hf := nm_of hf
              obtain ⟨x10, ex10, hf⟩ := hf
              refine r_iinc (pc := 48) (loc' := [(1, .int x10), (0, .ref (q 0))]) (v := x10) cx dX5_allSame_48 1 rfl ((congrArg (fun z => x1 + z) ic_1).trans ex10.symm) (by decide) rfl ?_
              refine r_goto (pc := 51) (tgt := 2) cx dX5_allSame_51 (by decide) ?_
              refine r_loc (loc' := [(0, .ref (q 0)), (1, .int x10)]) [1, 0] rfl ?_
              exact ih2 _ hf
            · replace hf := ifn h9 hf
              refine r_loc (loc' := []) [] rfl ?_
              exact hk2_46 hf
  refine r_loc (loc' := [(0, .ref (q 0)), (1, .int (0 : Int32))]) [1, 0] rfl ?_
  refine hL2 _ _ (fun hf => ?_) (fun hf => ?_) _ _ hf
  · refine r_iconst (pc := 46) cx dX5_allSame_46 ic_0 ?_
    have hi := inj1 hf
    exact r_zret (pc := 47) cx (Or.inl rfl) hi rfl dX5_allSame_47
  · refine r_iconst (pc := 54) cx dX5_allSame_54 ic_1 ?_
    have hi := inj1 hf
    exact r_zret (pc := 55) cx (Or.inr rfl) hi rfl dX5_allSame_55
theorem yv_X5_allSame : YV yX5_allSame cX5_allSame 2 (some .boolean) 0 := ⟨⟨by decide +kernel, by decide +kernel, by decide +kernel⟩, wd_784, wd_97, wd_782, wd_783⟩
abbrev rm_Qu_flipIn : Room := { frames := 0, cells := 0, slots := 0, locals := 0 }
set_option maxRecDepth 100000 in
set_option maxHeartbeats 4000000 in
theorem m_Qu_flipIn (l : Launch) (D : va_G) (K : Nat → ClassId) (qz : Nat → Nat) (ar : (Nat → Int32)) (a1 : Int32) (a2 : Int32) (a3 : Int32) {r_ : Int32} {o_ar : (Nat → Int32)} (hf : f_Qu_flipIn ar a1 a2 a3 = some (r_, o_ar)) : MI l yX5_flipIn cX5_flipIn 4 (some .boolean) rm_Qu_flipIn D K [.ref (qz 0), .int a1, .int a2, .int a3] (cl_R K 8 qz ar) r_ (cl_R K 8 qz o_ar) := by
  refine MI_of (loc0 := [(0, .ref (qz 0)), (1, .int a1), (2, .int a2), (3, .int a3)]) (by decide +kernel) rfl (Nat.le_of_ble_eq_true rfl) ?_
  intro p e s m args below meth c A cx
  unfold f_Qu_flipIn at hf
  refine r_ws (ws' := [((qz 0), aI K 8 ar)]) rfl ?_
  refine r_iload_n (pc := 0) cx dX5_flipIn_0 2 rfl ?_
  refine r_if_eq (pc := 1) (tgt := 16) cx dX5_flipIn_1 (by decide) (fun h1 => ?_) (fun h1 => ?_)
  · replace hf := ifp h1 hf
    refine r_iload_n (pc := 16) cx dX5_flipIn_16 2 rfl ?_
    replace hf := chk_of hf
    obtain ⟨h2, hf⟩ := hf
    have hi := inj2 hf
    exact r_zret (pc := 17) cx h2 hi.1 (by rw [← hi.2]; rfl) dX5_flipIn_17
  · replace hf := ifn h1 hf
    refine r_aload_n (pc := 4) cx dX5_flipIn_4 0 rfl ?_
    refine r_iload_n (pc := 5) cx dX5_flipIn_5 1 rfl ?_
    refine r_bipush (pc := 6) cx dX5_flipIn_6 bp_7 ?_
    refine r_iand (pc := 8) cx dX5_flipIn_8 ?_
    replace hf := nm_of hf
    obtain ⟨x3, ex3, hf⟩ := hf
    refine r_nm ex3 ?_
    refine r_dup2 (pc := 9) cx dX5_flipIn_9 rfl rfl ?_
    refine r_iald (pc := 10) cx 0 rfl (by rw [ex3]; exact ix_and7 _) dX5_flipIn_10 ?_
    refine r_iconst (pc := 11) cx dX5_flipIn_11 ic_1 ?_
    refine r_iload_n (pc := 12) cx dX5_flipIn_12 3 rfl ?_
    refine r_ishl (pc := 13) cx dX5_flipIn_13 ?_
    refine r_ixor (pc := 14) cx dX5_flipIn_14 ?_
    replace hf := nm_of hf
    obtain ⟨x4, ex4, hf⟩ := hf
    refine r_nm ex4 ?_
    replace hf := nm_of hf
    obtain ⟨f5, ef5, hf⟩ := hf
    refine r_iast (pc := 15) (ws' := [((qz 0), aI K 8 f5)]) cx 0 rfl (by rw [ex3]; exact ix_and7 _) dX5_flipIn_15 ef5 rfl ?_
    refine r_iload_n (pc := 16) cx dX5_flipIn_16 2 rfl ?_
    replace hf := chk_of hf
    obtain ⟨h6, hf⟩ := hf
    have hi := inj2 hf
    exact r_zret (pc := 17) cx h6 hi.1 (by rw [← hi.2]; rfl) dX5_flipIn_17
theorem ys_X5_flipIn : YS yX5_flipIn cX5_flipIn 4 (some .boolean) 4 := ⟨⟨by decide +kernel, by decide +kernel, by decide +kernel⟩, wd_947, wd_97, wd_946⟩
abbrev rm_Qu_flipQueued : Room := { frames := 1, cells := 0, slots := 0, locals := 23 }
set_option maxRecDepth 100000 in
set_option maxHeartbeats 4000000 in
theorem m_Qu_flipQueued (l : Launch) (D : va_G) (K : Nat → ClassId) (q : Nat → Nat) (v : T_Qu) (a1 : Int32) (a2 : Int32) (a3 : Int32) {r_ : Int32} {o_v : T_Qu} (hf : f_Qu_flipQueued v a1 a2 a3 = some (r_, o_v)) : MI l yX5_flipQueued cX5_flipQueued 4 (some .boolean) rm_Qu_flipQueued D K [.ref (q 0), .int a1, .int a2, .int a3] (cl_Qu K q v) r_ (cl_Qu K q o_v) := by
  refine MI_of (loc0 := [(0, .ref (q 0)), (1, .int a1), (2, .int a2), (3, .int a3)]) (by decide +kernel) rfl (Nat.le_of_ble_eq_true rfl) ?_
  intro p e s m args below meth c A cx
  unfold f_Qu_flipQueued at hf
  refine r_ws (ws' := [((q 0), ob 4 [.ref (q 1), .ref (q 2), .ref (q 3), .ref (q 4), .ref (q 5), .ref (q 6), .ref (q 7), .int (Qu_firstLoad v), .int (Qu_loads v), .int (Qu_firstBranch v), .int (Qu_branches v), .int (Qu_held v), .int (Qu_comparedHeld v)]), ((q 1), aI K 8 (Qu_loadAddress v)), ((q 2), aI K 8 (Qu_loadWord v)), ((q 3), aI K 8 (Qu_branch v)), ((q 4), aI K 8 (Qu_heldAddress v)), ((q 5), aI K 8 (Qu_heldWord v)), ((q 6), aI K 8 (Qu_besideAddress v)), ((q 7), aI K 8 (Qu_besideWord v))]) rfl ?_
  refine r_iload_n (pc := 0) cx dX5_flipQueued_0 1 rfl ?_
  by_cases h1 : a1 = (6 : Int32)
  · replace hf := ifp h1 hf
    refine r_tin (pc := 1) (tgt := 44) cx (6 : Int32) h1 dX5_flipQueued_1 (by decide) (by decide) rfl (by decide) ?_
    refine r_aload_n (pc := 44) cx dX5_flipQueued_44 0 rfl ?_
    refine r_get (pc := 45) cx cf_X5 0 0 rfl (by decide) rfl wd_343 dX5_flipQueued_45 ?_
    refine r_aload_n (pc := 48) cx dX5_flipQueued_48 0 rfl ?_
    refine r_get (pc := 49) cx cf_X5 0 7 rfl (by decide) rfl wd_352 dX5_flipQueued_49 ?_
    refine r_iload_n (pc := 52) cx dX5_flipQueued_52 2 rfl ?_
    refine r_iadd (pc := 53) cx dX5_flipQueued_53 ?_
    refine r_iload_n (pc := 54) cx dX5_flipQueued_54 2 rfl ?_
    refine r_aload_n (pc := 55) cx dX5_flipQueued_55 0 rfl ?_
    refine r_get (pc := 56) cx cf_X5 0 8 rfl (by decide) rfl wd_353 dX5_flipQueued_56 ?_
    refine r_icmp_ge (pc := 59) (tgt := 71) cx dX5_flipQueued_59 (by decide) (fun h2 => ?_) (fun h2 => ?_)
    · replace hf := ifp h2 hf
      refine r_iconst (pc := 71) cx dX5_flipQueued_71 ic_0 ?_
      refine r_iload_n (pc := 72) cx dX5_flipQueued_72 3 rfl ?_
      replace hf := bd2_of hf
      obtain ⟨r3, v4, hc5, hf⟩ := hf
      refine r_Si (pc := 73) (ws' := [((q 0), ob 4 [.ref (q 1), .ref (q 2), .ref (q 3), .ref (q 4), .ref (q 5), .ref (q 6), .ref (q 7), .int (Qu_firstLoad v), .int (Qu_loads v), .int (Qu_firstBranch v), .int (Qu_branches v), .int (Qu_held v), .int (Qu_comparedHeld v)]), ((q 1), aI K 8 v4), ((q 2), aI K 8 (Qu_loadWord v)), ((q 3), aI K 8 (Qu_branch v)), ((q 4), aI K 8 (Qu_heldAddress v)), ((q 5), aI K 8 (Qu_heldWord v)), ((q 6), aI K 8 (Qu_besideAddress v)), ((q 7), aI K 8 (Qu_besideWord v))]) (wc := [((q 1), aI K 8 (Qu_loadAddress v))]) (nn := 1) cx [.ref (q 1), .int ((Qu_firstLoad v) + a2), .int (0 : Int32), .int a3] [] (m_Qu_flipIn l D K (fun i => q (i + 1)) (Qu_loadAddress v) ((Qu_firstLoad v) + a2) (0 : Int32) a3 hc5) rfl ys_X5_flipIn wd_945 ⟨rfl, rfl⟩ (by decide) (fr_k (fr_s (j := 0) rfl rfl rfl (fr_k (fr_k (fr_k (fr_k (fr_k (fr_k (fr_n))))))))) rfl (by decide) rfl (Nat.le_of_ble_eq_true rfl) dX5_flipQueued_73 ?_
      replace hf := chk_of hf
      obtain ⟨h6, hf⟩ := hf
      have hi := inj2 hf
      exact r_zret (pc := 76) cx h6 hi.1 (by rw [← hi.2]; (try simp only [cl_Qu, Qu_loadAddress_mk, Qu_loadWord_mk, Qu_branch_mk, Qu_heldAddress_mk, Qu_heldWord_mk, Qu_besideAddress_mk, Qu_besideWord_mk, Qu_firstLoad_mk, Qu_loads_mk, Qu_firstBranch_mk, Qu_branches_mk, Qu_held_mk, Qu_comparedHeld_mk, List.cons_append, List.nil_append, List.append_nil]) <;> rfl) dX5_flipQueued_76
    · replace hf := ifn h2 hf
      refine r_iload_n (pc := 62) cx dX5_flipQueued_62 3 rfl ?_
      refine r_iconst (pc := 63) cx dX5_flipQueued_63 ic_5 ?_
      refine r_icmp_ge (pc := 64) (tgt := 71) cx dX5_flipQueued_64 (by decide) (fun h7 => ?_) (fun h7 => ?_)
      · replace hf := ifp h7 hf
        refine r_iconst (pc := 71) cx dX5_flipQueued_71 ic_0 ?_
        refine r_iload_n (pc := 72) cx dX5_flipQueued_72 3 rfl ?_
        replace hf := bd2_of hf
        obtain ⟨r8, v9, hc10, hf⟩ := hf
        refine r_Si (pc := 73) (ws' := [((q 0), ob 4 [.ref (q 1), .ref (q 2), .ref (q 3), .ref (q 4), .ref (q 5), .ref (q 6), .ref (q 7), .int (Qu_firstLoad v), .int (Qu_loads v), .int (Qu_firstBranch v), .int (Qu_branches v), .int (Qu_held v), .int (Qu_comparedHeld v)]), ((q 1), aI K 8 v9), ((q 2), aI K 8 (Qu_loadWord v)), ((q 3), aI K 8 (Qu_branch v)), ((q 4), aI K 8 (Qu_heldAddress v)), ((q 5), aI K 8 (Qu_heldWord v)), ((q 6), aI K 8 (Qu_besideAddress v)), ((q 7), aI K 8 (Qu_besideWord v))]) (wc := [((q 1), aI K 8 (Qu_loadAddress v))]) (nn := 1) cx [.ref (q 1), .int ((Qu_firstLoad v) + a2), .int (0 : Int32), .int a3] [] (m_Qu_flipIn l D K (fun i => q (i + 1)) (Qu_loadAddress v) ((Qu_firstLoad v) + a2) (0 : Int32) a3 hc10) rfl ys_X5_flipIn wd_945 ⟨rfl, rfl⟩ (by decide) (fr_k (fr_s (j := 0) rfl rfl rfl (fr_k (fr_k (fr_k (fr_k (fr_k (fr_k (fr_n))))))))) rfl (by decide) rfl (Nat.le_of_ble_eq_true rfl) dX5_flipQueued_73 ?_
        replace hf := chk_of hf
        obtain ⟨h11, hf⟩ := hf
        have hi := inj2 hf
        exact r_zret (pc := 76) cx h11 hi.1 (by rw [← hi.2]; (try simp only [cl_Qu, Qu_loadAddress_mk, Qu_loadWord_mk, Qu_branch_mk, Qu_heldAddress_mk, Qu_heldWord_mk, Qu_besideAddress_mk, Qu_besideWord_mk, Qu_firstLoad_mk, Qu_loads_mk, Qu_firstBranch_mk, Qu_branches_mk, Qu_held_mk, Qu_comparedHeld_mk, List.cons_append, List.nil_append, List.append_nil]) <;> rfl) dX5_flipQueued_76
      · replace hf := ifn h7 hf
        refine r_iconst (pc := 67) cx dX5_flipQueued_67 ic_1 ?_
        refine r_goto (pc := 68) (tgt := 72) cx dX5_flipQueued_68 (by decide) ?_
        refine r_iload_n (pc := 72) cx dX5_flipQueued_72 3 rfl ?_
        replace hf := bd2_of hf
        obtain ⟨r12, v13, hc14, hf⟩ := hf
        refine r_Si (pc := 73) (ws' := [((q 0), ob 4 [.ref (q 1), .ref (q 2), .ref (q 3), .ref (q 4), .ref (q 5), .ref (q 6), .ref (q 7), .int (Qu_firstLoad v), .int (Qu_loads v), .int (Qu_firstBranch v), .int (Qu_branches v), .int (Qu_held v), .int (Qu_comparedHeld v)]), ((q 1), aI K 8 v13), ((q 2), aI K 8 (Qu_loadWord v)), ((q 3), aI K 8 (Qu_branch v)), ((q 4), aI K 8 (Qu_heldAddress v)), ((q 5), aI K 8 (Qu_heldWord v)), ((q 6), aI K 8 (Qu_besideAddress v)), ((q 7), aI K 8 (Qu_besideWord v))]) (wc := [((q 1), aI K 8 (Qu_loadAddress v))]) (nn := 1) cx [.ref (q 1), .int ((Qu_firstLoad v) + a2), .int (1 : Int32), .int a3] [] (m_Qu_flipIn l D K (fun i => q (i + 1)) (Qu_loadAddress v) ((Qu_firstLoad v) + a2) (1 : Int32) a3 hc14) rfl ys_X5_flipIn wd_945 ⟨rfl, rfl⟩ (by decide) (fr_k (fr_s (j := 0) rfl rfl rfl (fr_k (fr_k (fr_k (fr_k (fr_k (fr_k (fr_n))))))))) rfl (by decide) rfl (Nat.le_of_ble_eq_true rfl) dX5_flipQueued_73 ?_
        replace hf := chk_of hf
        obtain ⟨h15, hf⟩ := hf
        have hi := inj2 hf
        exact r_zret (pc := 76) cx h15 hi.1 (by rw [← hi.2]; (try simp only [cl_Qu, Qu_loadAddress_mk, Qu_loadWord_mk, Qu_branch_mk, Qu_heldAddress_mk, Qu_heldWord_mk, Qu_besideAddress_mk, Qu_besideWord_mk, Qu_firstLoad_mk, Qu_loads_mk, Qu_firstBranch_mk, Qu_branches_mk, Qu_held_mk, Qu_comparedHeld_mk, List.cons_append, List.nil_append, List.append_nil]) <;> rfl) dX5_flipQueued_76
  · replace hf := ifn h1 hf
    by_cases h16 : a1 = (7 : Int32)
    · replace hf := ifp h16 hf
      refine r_tin (pc := 1) (tgt := 77) cx (7 : Int32) h16 dX5_flipQueued_1 (by decide) (by decide) rfl (by decide) ?_
      refine r_aload_n (pc := 77) cx dX5_flipQueued_77 0 rfl ?_
      refine r_get (pc := 78) cx cf_X5 0 1 rfl (by decide) rfl wd_344 dX5_flipQueued_78 ?_
      refine r_aload_n (pc := 81) cx dX5_flipQueued_81 0 rfl ?_
      refine r_get (pc := 82) cx cf_X5 0 7 rfl (by decide) rfl wd_352 dX5_flipQueued_82 ?_
      refine r_iload_n (pc := 85) cx dX5_flipQueued_85 2 rfl ?_
      refine r_iadd (pc := 86) cx dX5_flipQueued_86 ?_
      refine r_iload_n (pc := 87) cx dX5_flipQueued_87 2 rfl ?_
      refine r_aload_n (pc := 88) cx dX5_flipQueued_88 0 rfl ?_
      refine r_get (pc := 89) cx cf_X5 0 8 rfl (by decide) rfl wd_353 dX5_flipQueued_89 ?_
      refine r_icmp_ge (pc := 92) (tgt := 99) cx dX5_flipQueued_92 (by decide) (fun h17 => ?_) (fun h17 => ?_)
      · replace hf := ifp h17 hf
        refine r_iconst (pc := 99) cx dX5_flipQueued_99 ic_0 ?_
        refine r_iload_n (pc := 100) cx dX5_flipQueued_100 3 rfl ?_
        replace hf := bd2_of hf
        obtain ⟨r18, v19, hc20, hf⟩ := hf
        refine r_Si (pc := 101) (ws' := [((q 0), ob 4 [.ref (q 1), .ref (q 2), .ref (q 3), .ref (q 4), .ref (q 5), .ref (q 6), .ref (q 7), .int (Qu_firstLoad v), .int (Qu_loads v), .int (Qu_firstBranch v), .int (Qu_branches v), .int (Qu_held v), .int (Qu_comparedHeld v)]), ((q 1), aI K 8 (Qu_loadAddress v)), ((q 2), aI K 8 v19), ((q 3), aI K 8 (Qu_branch v)), ((q 4), aI K 8 (Qu_heldAddress v)), ((q 5), aI K 8 (Qu_heldWord v)), ((q 6), aI K 8 (Qu_besideAddress v)), ((q 7), aI K 8 (Qu_besideWord v))]) (wc := [((q 2), aI K 8 (Qu_loadWord v))]) (nn := 1) cx [.ref (q 2), .int ((Qu_firstLoad v) + a2), .int (0 : Int32), .int a3] [] (m_Qu_flipIn l D K (fun i => q (i + 2)) (Qu_loadWord v) ((Qu_firstLoad v) + a2) (0 : Int32) a3 hc20) rfl ys_X5_flipIn wd_945 ⟨rfl, rfl⟩ (by decide) (fr_k (fr_k (fr_s (j := 0) rfl rfl rfl (fr_k (fr_k (fr_k (fr_k (fr_k (fr_n))))))))) rfl (by decide) rfl (Nat.le_of_ble_eq_true rfl) dX5_flipQueued_101 ?_
        replace hf := chk_of hf
        obtain ⟨h21, hf⟩ := hf
        have hi := inj2 hf
        exact r_zret (pc := 104) cx h21 hi.1 (by rw [← hi.2]; (try simp only [cl_Qu, Qu_loadAddress_mk, Qu_loadWord_mk, Qu_branch_mk, Qu_heldAddress_mk, Qu_heldWord_mk, Qu_besideAddress_mk, Qu_besideWord_mk, Qu_firstLoad_mk, Qu_loads_mk, Qu_firstBranch_mk, Qu_branches_mk, Qu_held_mk, Qu_comparedHeld_mk, List.cons_append, List.nil_append, List.append_nil]) <;> rfl) dX5_flipQueued_104
      · replace hf := ifn h17 hf
        refine r_iconst (pc := 95) cx dX5_flipQueued_95 ic_1 ?_
        refine r_goto (pc := 96) (tgt := 100) cx dX5_flipQueued_96 (by decide) ?_
        refine r_iload_n (pc := 100) cx dX5_flipQueued_100 3 rfl ?_
        replace hf := bd2_of hf
        obtain ⟨r22, v23, hc24, hf⟩ := hf
        refine r_Si (pc := 101) (ws' := [((q 0), ob 4 [.ref (q 1), .ref (q 2), .ref (q 3), .ref (q 4), .ref (q 5), .ref (q 6), .ref (q 7), .int (Qu_firstLoad v), .int (Qu_loads v), .int (Qu_firstBranch v), .int (Qu_branches v), .int (Qu_held v), .int (Qu_comparedHeld v)]), ((q 1), aI K 8 (Qu_loadAddress v)), ((q 2), aI K 8 v23), ((q 3), aI K 8 (Qu_branch v)), ((q 4), aI K 8 (Qu_heldAddress v)), ((q 5), aI K 8 (Qu_heldWord v)), ((q 6), aI K 8 (Qu_besideAddress v)), ((q 7), aI K 8 (Qu_besideWord v))]) (wc := [((q 2), aI K 8 (Qu_loadWord v))]) (nn := 1) cx [.ref (q 2), .int ((Qu_firstLoad v) + a2), .int (1 : Int32), .int a3] [] (m_Qu_flipIn l D K (fun i => q (i + 2)) (Qu_loadWord v) ((Qu_firstLoad v) + a2) (1 : Int32) a3 hc24) rfl ys_X5_flipIn wd_945 ⟨rfl, rfl⟩ (by decide) (fr_k (fr_k (fr_s (j := 0) rfl rfl rfl (fr_k (fr_k (fr_k (fr_k (fr_k (fr_n))))))))) rfl (by decide) rfl (Nat.le_of_ble_eq_true rfl) dX5_flipQueued_101 ?_
        replace hf := chk_of hf
        obtain ⟨h25, hf⟩ := hf
        have hi := inj2 hf
        exact r_zret (pc := 104) cx h25 hi.1 (by rw [← hi.2]; (try simp only [cl_Qu, Qu_loadAddress_mk, Qu_loadWord_mk, Qu_branch_mk, Qu_heldAddress_mk, Qu_heldWord_mk, Qu_besideAddress_mk, Qu_besideWord_mk, Qu_firstLoad_mk, Qu_loads_mk, Qu_firstBranch_mk, Qu_branches_mk, Qu_held_mk, Qu_comparedHeld_mk, List.cons_append, List.nil_append, List.append_nil]) <;> rfl) dX5_flipQueued_104
    · replace hf := ifn h16 hf
      by_cases h26 : a1 = (8 : Int32)
      · replace hf := ifp h26 hf
        refine r_tin (pc := 1) (tgt := 105) cx (8 : Int32) h26 dX5_flipQueued_1 (by decide) (by decide) rfl (by decide) ?_
        refine r_aload_n (pc := 105) cx dX5_flipQueued_105 0 rfl ?_
        refine r_get (pc := 106) cx cf_X5 0 2 rfl (by decide) rfl wd_345 dX5_flipQueued_106 ?_
        refine r_aload_n (pc := 109) cx dX5_flipQueued_109 0 rfl ?_
        refine r_get (pc := 110) cx cf_X5 0 9 rfl (by decide) rfl wd_356 dX5_flipQueued_110 ?_
        refine r_iload_n (pc := 113) cx dX5_flipQueued_113 2 rfl ?_
        refine r_iadd (pc := 114) cx dX5_flipQueued_114 ?_
        refine r_iload_n (pc := 115) cx dX5_flipQueued_115 2 rfl ?_
        refine r_aload_n (pc := 116) cx dX5_flipQueued_116 0 rfl ?_
        refine r_get (pc := 117) cx cf_X5 0 10 rfl (by decide) rfl wd_357 dX5_flipQueued_117 ?_
        refine r_icmp_ge (pc := 120) (tgt := 132) cx dX5_flipQueued_120 (by decide) (fun h27 => ?_) (fun h27 => ?_)
        · replace hf := ifp h27 hf
          refine r_iconst (pc := 132) cx dX5_flipQueued_132 ic_0 ?_
          refine r_iload_n (pc := 133) cx dX5_flipQueued_133 3 rfl ?_
          replace hf := bd2_of hf
          obtain ⟨r28, v29, hc30, hf⟩ := hf
          refine r_Si (pc := 134) (ws' := [((q 0), ob 4 [.ref (q 1), .ref (q 2), .ref (q 3), .ref (q 4), .ref (q 5), .ref (q 6), .ref (q 7), .int (Qu_firstLoad v), .int (Qu_loads v), .int (Qu_firstBranch v), .int (Qu_branches v), .int (Qu_held v), .int (Qu_comparedHeld v)]), ((q 1), aI K 8 (Qu_loadAddress v)), ((q 2), aI K 8 (Qu_loadWord v)), ((q 3), aI K 8 v29), ((q 4), aI K 8 (Qu_heldAddress v)), ((q 5), aI K 8 (Qu_heldWord v)), ((q 6), aI K 8 (Qu_besideAddress v)), ((q 7), aI K 8 (Qu_besideWord v))]) (wc := [((q 3), aI K 8 (Qu_branch v))]) (nn := 1) cx [.ref (q 3), .int ((Qu_firstBranch v) + a2), .int (0 : Int32), .int a3] [] (m_Qu_flipIn l D K (fun i => q (i + 3)) (Qu_branch v) ((Qu_firstBranch v) + a2) (0 : Int32) a3 hc30) rfl ys_X5_flipIn wd_945 ⟨rfl, rfl⟩ (by decide) (fr_k (fr_k (fr_k (fr_s (j := 0) rfl rfl rfl (fr_k (fr_k (fr_k (fr_k (fr_n))))))))) rfl (by decide) rfl (Nat.le_of_ble_eq_true rfl) dX5_flipQueued_134 ?_
          replace hf := chk_of hf
          obtain ⟨h31, hf⟩ := hf
          have hi := inj2 hf
          exact r_zret (pc := 137) cx h31 hi.1 (by rw [← hi.2]; (try simp only [cl_Qu, Qu_loadAddress_mk, Qu_loadWord_mk, Qu_branch_mk, Qu_heldAddress_mk, Qu_heldWord_mk, Qu_besideAddress_mk, Qu_besideWord_mk, Qu_firstLoad_mk, Qu_loads_mk, Qu_firstBranch_mk, Qu_branches_mk, Qu_held_mk, Qu_comparedHeld_mk, List.cons_append, List.nil_append, List.append_nil]) <;> rfl) dX5_flipQueued_137
        · replace hf := ifn h27 hf
          refine r_iload_n (pc := 123) cx dX5_flipQueued_123 3 rfl ?_
          refine r_iconst (pc := 124) cx dX5_flipQueued_124 ic_1 ?_
          refine r_icmp_ge (pc := 125) (tgt := 132) cx dX5_flipQueued_125 (by decide) (fun h32 => ?_) (fun h32 => ?_)
          · replace hf := ifp h32 hf
            refine r_iconst (pc := 132) cx dX5_flipQueued_132 ic_0 ?_
            refine r_iload_n (pc := 133) cx dX5_flipQueued_133 3 rfl ?_
            replace hf := bd2_of hf
            obtain ⟨r33, v34, hc35, hf⟩ := hf
            refine r_Si (pc := 134) (ws' := [((q 0), ob 4 [.ref (q 1), .ref (q 2), .ref (q 3), .ref (q 4), .ref (q 5), .ref (q 6), .ref (q 7), .int (Qu_firstLoad v), .int (Qu_loads v), .int (Qu_firstBranch v), .int (Qu_branches v), .int (Qu_held v), .int (Qu_comparedHeld v)]), ((q 1), aI K 8 (Qu_loadAddress v)), ((q 2), aI K 8 (Qu_loadWord v)), ((q 3), aI K 8 v34), ((q 4), aI K 8 (Qu_heldAddress v)), ((q 5), aI K 8 (Qu_heldWord v)), ((q 6), aI K 8 (Qu_besideAddress v)), ((q 7), aI K 8 (Qu_besideWord v))]) (wc := [((q 3), aI K 8 (Qu_branch v))]) (nn := 1) cx [.ref (q 3), .int ((Qu_firstBranch v) + a2), .int (0 : Int32), .int a3] [] (m_Qu_flipIn l D K (fun i => q (i + 3)) (Qu_branch v) ((Qu_firstBranch v) + a2) (0 : Int32) a3 hc35) rfl ys_X5_flipIn wd_945 ⟨rfl, rfl⟩ (by decide) (fr_k (fr_k (fr_k (fr_s (j := 0) rfl rfl rfl (fr_k (fr_k (fr_k (fr_k (fr_n))))))))) rfl (by decide) rfl (Nat.le_of_ble_eq_true rfl) dX5_flipQueued_134 ?_
            replace hf := chk_of hf
            obtain ⟨h36, hf⟩ := hf
            have hi := inj2 hf
            exact r_zret (pc := 137) cx h36 hi.1 (by rw [← hi.2]; (try simp only [cl_Qu, Qu_loadAddress_mk, Qu_loadWord_mk, Qu_branch_mk, Qu_heldAddress_mk, Qu_heldWord_mk, Qu_besideAddress_mk, Qu_besideWord_mk, Qu_firstLoad_mk, Qu_loads_mk, Qu_firstBranch_mk, Qu_branches_mk, Qu_held_mk, Qu_comparedHeld_mk, List.cons_append, List.nil_append, List.append_nil]) <;> rfl) dX5_flipQueued_137
          · replace hf := ifn h32 hf
            refine r_iconst (pc := 128) cx dX5_flipQueued_128 ic_1 ?_
            refine r_goto (pc := 129) (tgt := 133) cx dX5_flipQueued_129 (by decide) ?_
            refine r_iload_n (pc := 133) cx dX5_flipQueued_133 3 rfl ?_
            replace hf := bd2_of hf
            obtain ⟨r37, v38, hc39, hf⟩ := hf
            refine r_Si (pc := 134) (ws' := [((q 0), ob 4 [.ref (q 1), .ref (q 2), .ref (q 3), .ref (q 4), .ref (q 5), .ref (q 6), .ref (q 7), .int (Qu_firstLoad v), .int (Qu_loads v), .int (Qu_firstBranch v), .int (Qu_branches v), .int (Qu_held v), .int (Qu_comparedHeld v)]), ((q 1), aI K 8 (Qu_loadAddress v)), ((q 2), aI K 8 (Qu_loadWord v)), ((q 3), aI K 8 v38), ((q 4), aI K 8 (Qu_heldAddress v)), ((q 5), aI K 8 (Qu_heldWord v)), ((q 6), aI K 8 (Qu_besideAddress v)), ((q 7), aI K 8 (Qu_besideWord v))]) (wc := [((q 3), aI K 8 (Qu_branch v))]) (nn := 1) cx [.ref (q 3), .int ((Qu_firstBranch v) + a2), .int (1 : Int32), .int a3] [] (m_Qu_flipIn l D K (fun i => q (i + 3)) (Qu_branch v) ((Qu_firstBranch v) + a2) (1 : Int32) a3 hc39) rfl ys_X5_flipIn wd_945 ⟨rfl, rfl⟩ (by decide) (fr_k (fr_k (fr_k (fr_s (j := 0) rfl rfl rfl (fr_k (fr_k (fr_k (fr_k (fr_n))))))))) rfl (by decide) rfl (Nat.le_of_ble_eq_true rfl) dX5_flipQueued_134 ?_
            replace hf := chk_of hf
            obtain ⟨h40, hf⟩ := hf
            have hi := inj2 hf
            exact r_zret (pc := 137) cx h40 hi.1 (by rw [← hi.2]; (try simp only [cl_Qu, Qu_loadAddress_mk, Qu_loadWord_mk, Qu_branch_mk, Qu_heldAddress_mk, Qu_heldWord_mk, Qu_besideAddress_mk, Qu_besideWord_mk, Qu_firstLoad_mk, Qu_loads_mk, Qu_firstBranch_mk, Qu_branches_mk, Qu_held_mk, Qu_comparedHeld_mk, List.cons_append, List.nil_append, List.append_nil]) <;> rfl) dX5_flipQueued_137
      · replace hf := ifn h26 hf
        by_cases h41 : a1 = (9 : Int32)
        · replace hf := ifp h41 hf
          refine r_tin (pc := 1) (tgt := 138) cx (9 : Int32) h41 dX5_flipQueued_1 (by decide) (by decide) rfl (by decide) ?_
          refine r_aload_n (pc := 138) cx dX5_flipQueued_138 0 rfl ?_
          refine r_get (pc := 139) cx cf_X5 0 3 rfl (by decide) rfl wd_346 dX5_flipQueued_139 ?_
          refine r_iload_n (pc := 142) cx dX5_flipQueued_142 2 rfl ?_
          refine r_iload_n (pc := 143) cx dX5_flipQueued_143 2 rfl ?_
          refine r_aload_n (pc := 144) cx dX5_flipQueued_144 0 rfl ?_
          refine r_get (pc := 145) cx cf_X5 0 11 rfl (by decide) rfl wd_360 dX5_flipQueued_145 ?_
          refine r_icmp_ge (pc := 148) (tgt := 161) cx dX5_flipQueued_148 (by decide) (fun h42 => ?_) (fun h42 => ?_)
          · replace hf := ifp h42 hf
            refine r_iconst (pc := 161) cx dX5_flipQueued_161 ic_0 ?_
            refine r_iload_n (pc := 162) cx dX5_flipQueued_162 3 rfl ?_
            replace hf := bd2_of hf
            obtain ⟨r43, v44, hc45, hf⟩ := hf
            refine r_Si (pc := 163) (ws' := [((q 0), ob 4 [.ref (q 1), .ref (q 2), .ref (q 3), .ref (q 4), .ref (q 5), .ref (q 6), .ref (q 7), .int (Qu_firstLoad v), .int (Qu_loads v), .int (Qu_firstBranch v), .int (Qu_branches v), .int (Qu_held v), .int (Qu_comparedHeld v)]), ((q 1), aI K 8 (Qu_loadAddress v)), ((q 2), aI K 8 (Qu_loadWord v)), ((q 3), aI K 8 (Qu_branch v)), ((q 4), aI K 8 v44), ((q 5), aI K 8 (Qu_heldWord v)), ((q 6), aI K 8 (Qu_besideAddress v)), ((q 7), aI K 8 (Qu_besideWord v))]) (wc := [((q 4), aI K 8 (Qu_heldAddress v))]) (nn := 1) cx [.ref (q 4), .int a2, .int (0 : Int32), .int a3] [] (m_Qu_flipIn l D K (fun i => q (i + 4)) (Qu_heldAddress v) a2 (0 : Int32) a3 hc45) rfl ys_X5_flipIn wd_945 ⟨rfl, rfl⟩ (by decide) (fr_k (fr_k (fr_k (fr_k (fr_s (j := 0) rfl rfl rfl (fr_k (fr_k (fr_k (fr_n))))))))) rfl (by decide) rfl (Nat.le_of_ble_eq_true rfl) dX5_flipQueued_163 ?_
            replace hf := chk_of hf
            obtain ⟨h46, hf⟩ := hf
            have hi := inj2 hf
            exact r_zret (pc := 166) cx h46 hi.1 (by rw [← hi.2]; (try simp only [cl_Qu, Qu_loadAddress_mk, Qu_loadWord_mk, Qu_branch_mk, Qu_heldAddress_mk, Qu_heldWord_mk, Qu_besideAddress_mk, Qu_besideWord_mk, Qu_firstLoad_mk, Qu_loads_mk, Qu_firstBranch_mk, Qu_branches_mk, Qu_held_mk, Qu_comparedHeld_mk, List.cons_append, List.nil_append, List.append_nil]) <;> rfl) dX5_flipQueued_166
          · replace hf := ifn h42 hf
            refine r_iload_n (pc := 151) cx dX5_flipQueued_151 3 rfl ?_
            refine r_bipush (pc := 152) cx dX5_flipQueued_152 bp_6 ?_
            refine r_icmp_ge (pc := 154) (tgt := 161) cx dX5_flipQueued_154 (by decide) (fun h47 => ?_) (fun h47 => ?_)
            · replace hf := ifp h47 hf
              refine r_iconst (pc := 161) cx dX5_flipQueued_161 ic_0 ?_
              refine r_iload_n (pc := 162) cx dX5_flipQueued_162 3 rfl ?_
              replace hf := bd2_of hf
              obtain ⟨r48, v49, hc50, hf⟩ := hf
              refine r_Si (pc := 163) (ws' := [((q 0), ob 4 [.ref (q 1), .ref (q 2), .ref (q 3), .ref (q 4), .ref (q 5), .ref (q 6), .ref (q 7), .int (Qu_firstLoad v), .int (Qu_loads v), .int (Qu_firstBranch v), .int (Qu_branches v), .int (Qu_held v), .int (Qu_comparedHeld v)]), ((q 1), aI K 8 (Qu_loadAddress v)), ((q 2), aI K 8 (Qu_loadWord v)), ((q 3), aI K 8 (Qu_branch v)), ((q 4), aI K 8 v49), ((q 5), aI K 8 (Qu_heldWord v)), ((q 6), aI K 8 (Qu_besideAddress v)), ((q 7), aI K 8 (Qu_besideWord v))]) (wc := [((q 4), aI K 8 (Qu_heldAddress v))]) (nn := 1) cx [.ref (q 4), .int a2, .int (0 : Int32), .int a3] [] (m_Qu_flipIn l D K (fun i => q (i + 4)) (Qu_heldAddress v) a2 (0 : Int32) a3 hc50) rfl ys_X5_flipIn wd_945 ⟨rfl, rfl⟩ (by decide) (fr_k (fr_k (fr_k (fr_k (fr_s (j := 0) rfl rfl rfl (fr_k (fr_k (fr_k (fr_n))))))))) rfl (by decide) rfl (Nat.le_of_ble_eq_true rfl) dX5_flipQueued_163 ?_
              replace hf := chk_of hf
              obtain ⟨h51, hf⟩ := hf
              have hi := inj2 hf
              exact r_zret (pc := 166) cx h51 hi.1 (by rw [← hi.2]; (try simp only [cl_Qu, Qu_loadAddress_mk, Qu_loadWord_mk, Qu_branch_mk, Qu_heldAddress_mk, Qu_heldWord_mk, Qu_besideAddress_mk, Qu_besideWord_mk, Qu_firstLoad_mk, Qu_loads_mk, Qu_firstBranch_mk, Qu_branches_mk, Qu_held_mk, Qu_comparedHeld_mk, List.cons_append, List.nil_append, List.append_nil]) <;> rfl) dX5_flipQueued_166
            · replace hf := ifn h47 hf
              refine r_iconst (pc := 157) cx dX5_flipQueued_157 ic_1 ?_
              refine r_goto (pc := 158) (tgt := 162) cx dX5_flipQueued_158 (by decide) ?_
              refine r_iload_n (pc := 162) cx dX5_flipQueued_162 3 rfl ?_
              replace hf := bd2_of hf
              obtain ⟨r52, v53, hc54, hf⟩ := hf
              refine r_Si (pc := 163) (ws' := [((q 0), ob 4 [.ref (q 1), .ref (q 2), .ref (q 3), .ref (q 4), .ref (q 5), .ref (q 6), .ref (q 7), .int (Qu_firstLoad v), .int (Qu_loads v), .int (Qu_firstBranch v), .int (Qu_branches v), .int (Qu_held v), .int (Qu_comparedHeld v)]), ((q 1), aI K 8 (Qu_loadAddress v)), ((q 2), aI K 8 (Qu_loadWord v)), ((q 3), aI K 8 (Qu_branch v)), ((q 4), aI K 8 v53), ((q 5), aI K 8 (Qu_heldWord v)), ((q 6), aI K 8 (Qu_besideAddress v)), ((q 7), aI K 8 (Qu_besideWord v))]) (wc := [((q 4), aI K 8 (Qu_heldAddress v))]) (nn := 1) cx [.ref (q 4), .int a2, .int (1 : Int32), .int a3] [] (m_Qu_flipIn l D K (fun i => q (i + 4)) (Qu_heldAddress v) a2 (1 : Int32) a3 hc54) rfl ys_X5_flipIn wd_945 ⟨rfl, rfl⟩ (by decide) (fr_k (fr_k (fr_k (fr_k (fr_s (j := 0) rfl rfl rfl (fr_k (fr_k (fr_k (fr_n))))))))) rfl (by decide) rfl (Nat.le_of_ble_eq_true rfl) dX5_flipQueued_163 ?_
              replace hf := chk_of hf
              obtain ⟨h55, hf⟩ := hf
              have hi := inj2 hf
              exact r_zret (pc := 166) cx h55 hi.1 (by rw [← hi.2]; (try simp only [cl_Qu, Qu_loadAddress_mk, Qu_loadWord_mk, Qu_branch_mk, Qu_heldAddress_mk, Qu_heldWord_mk, Qu_besideAddress_mk, Qu_besideWord_mk, Qu_firstLoad_mk, Qu_loads_mk, Qu_firstBranch_mk, Qu_branches_mk, Qu_held_mk, Qu_comparedHeld_mk, List.cons_append, List.nil_append, List.append_nil]) <;> rfl) dX5_flipQueued_166
        · replace hf := ifn h41 hf
          by_cases h56 : a1 = (10 : Int32)
          · replace hf := ifp h56 hf
            refine r_tin (pc := 1) (tgt := 167) cx (10 : Int32) h56 dX5_flipQueued_1 (by decide) (by decide) rfl (by decide) ?_
            refine r_aload_n (pc := 167) cx dX5_flipQueued_167 0 rfl ?_
            refine r_get (pc := 168) cx cf_X5 0 4 rfl (by decide) rfl wd_348 dX5_flipQueued_168 ?_
            refine r_iload_n (pc := 171) cx dX5_flipQueued_171 2 rfl ?_
            refine r_iload_n (pc := 172) cx dX5_flipQueued_172 2 rfl ?_
            refine r_aload_n (pc := 173) cx dX5_flipQueued_173 0 rfl ?_
            refine r_get (pc := 174) cx cf_X5 0 11 rfl (by decide) rfl wd_360 dX5_flipQueued_174 ?_
            refine r_icmp_ge (pc := 177) (tgt := 184) cx dX5_flipQueued_177 (by decide) (fun h57 => ?_) (fun h57 => ?_)
            · replace hf := ifp h57 hf
              refine r_iconst (pc := 184) cx dX5_flipQueued_184 ic_0 ?_
              refine r_iload_n (pc := 185) cx dX5_flipQueued_185 3 rfl ?_
              replace hf := bd2_of hf
              obtain ⟨r58, v59, hc60, hf⟩ := hf
              refine r_Si (pc := 186) (ws' := [((q 0), ob 4 [.ref (q 1), .ref (q 2), .ref (q 3), .ref (q 4), .ref (q 5), .ref (q 6), .ref (q 7), .int (Qu_firstLoad v), .int (Qu_loads v), .int (Qu_firstBranch v), .int (Qu_branches v), .int (Qu_held v), .int (Qu_comparedHeld v)]), ((q 1), aI K 8 (Qu_loadAddress v)), ((q 2), aI K 8 (Qu_loadWord v)), ((q 3), aI K 8 (Qu_branch v)), ((q 4), aI K 8 (Qu_heldAddress v)), ((q 5), aI K 8 v59), ((q 6), aI K 8 (Qu_besideAddress v)), ((q 7), aI K 8 (Qu_besideWord v))]) (wc := [((q 5), aI K 8 (Qu_heldWord v))]) (nn := 1) cx [.ref (q 5), .int a2, .int (0 : Int32), .int a3] [] (m_Qu_flipIn l D K (fun i => q (i + 5)) (Qu_heldWord v) a2 (0 : Int32) a3 hc60) rfl ys_X5_flipIn wd_945 ⟨rfl, rfl⟩ (by decide) (fr_k (fr_k (fr_k (fr_k (fr_k (fr_s (j := 0) rfl rfl rfl (fr_k (fr_k (fr_n))))))))) rfl (by decide) rfl (Nat.le_of_ble_eq_true rfl) dX5_flipQueued_186 ?_
              replace hf := chk_of hf
              obtain ⟨h61, hf⟩ := hf
              have hi := inj2 hf
              exact r_zret (pc := 189) cx h61 hi.1 (by rw [← hi.2]; (try simp only [cl_Qu, Qu_loadAddress_mk, Qu_loadWord_mk, Qu_branch_mk, Qu_heldAddress_mk, Qu_heldWord_mk, Qu_besideAddress_mk, Qu_besideWord_mk, Qu_firstLoad_mk, Qu_loads_mk, Qu_firstBranch_mk, Qu_branches_mk, Qu_held_mk, Qu_comparedHeld_mk, List.cons_append, List.nil_append, List.append_nil]) <;> rfl) dX5_flipQueued_189
            · replace hf := ifn h57 hf
              refine r_iconst (pc := 180) cx dX5_flipQueued_180 ic_1 ?_
              refine r_goto (pc := 181) (tgt := 185) cx dX5_flipQueued_181 (by decide) ?_
              refine r_iload_n (pc := 185) cx dX5_flipQueued_185 3 rfl ?_
              replace hf := bd2_of hf
              obtain ⟨r62, v63, hc64, hf⟩ := hf
              refine r_Si (pc := 186) (ws' := [((q 0), ob 4 [.ref (q 1), .ref (q 2), .ref (q 3), .ref (q 4), .ref (q 5), .ref (q 6), .ref (q 7), .int (Qu_firstLoad v), .int (Qu_loads v), .int (Qu_firstBranch v), .int (Qu_branches v), .int (Qu_held v), .int (Qu_comparedHeld v)]), ((q 1), aI K 8 (Qu_loadAddress v)), ((q 2), aI K 8 (Qu_loadWord v)), ((q 3), aI K 8 (Qu_branch v)), ((q 4), aI K 8 (Qu_heldAddress v)), ((q 5), aI K 8 v63), ((q 6), aI K 8 (Qu_besideAddress v)), ((q 7), aI K 8 (Qu_besideWord v))]) (wc := [((q 5), aI K 8 (Qu_heldWord v))]) (nn := 1) cx [.ref (q 5), .int a2, .int (1 : Int32), .int a3] [] (m_Qu_flipIn l D K (fun i => q (i + 5)) (Qu_heldWord v) a2 (1 : Int32) a3 hc64) rfl ys_X5_flipIn wd_945 ⟨rfl, rfl⟩ (by decide) (fr_k (fr_k (fr_k (fr_k (fr_k (fr_s (j := 0) rfl rfl rfl (fr_k (fr_k (fr_n))))))))) rfl (by decide) rfl (Nat.le_of_ble_eq_true rfl) dX5_flipQueued_186 ?_
              replace hf := chk_of hf
              obtain ⟨h65, hf⟩ := hf
              have hi := inj2 hf
              exact r_zret (pc := 189) cx h65 hi.1 (by rw [← hi.2]; (try simp only [cl_Qu, Qu_loadAddress_mk, Qu_loadWord_mk, Qu_branch_mk, Qu_heldAddress_mk, Qu_heldWord_mk, Qu_besideAddress_mk, Qu_besideWord_mk, Qu_firstLoad_mk, Qu_loads_mk, Qu_firstBranch_mk, Qu_branches_mk, Qu_held_mk, Qu_comparedHeld_mk, List.cons_append, List.nil_append, List.append_nil]) <;> rfl) dX5_flipQueued_189
          · replace hf := ifn h56 hf
            by_cases h66 : a1 = (11 : Int32)
            · replace hf := ifp h66 hf
              refine r_tin (pc := 1) (tgt := 190) cx (11 : Int32) h66 dX5_flipQueued_1 (by decide) (by decide) rfl (by decide) ?_
              refine r_aload_n (pc := 190) cx dX5_flipQueued_190 0 rfl ?_
              refine r_get (pc := 191) cx cf_X5 0 5 rfl (by decide) rfl wd_350 dX5_flipQueued_191 ?_
              refine r_iload_n (pc := 194) cx dX5_flipQueued_194 2 rfl ?_
              refine r_iload_n (pc := 195) cx dX5_flipQueued_195 2 rfl ?_
              refine r_aload_n (pc := 196) cx dX5_flipQueued_196 0 rfl ?_
              refine r_get (pc := 197) cx cf_X5 0 12 rfl (by decide) rfl wd_363 dX5_flipQueued_197 ?_
              refine r_icmp_ge (pc := 200) (tgt := 213) cx dX5_flipQueued_200 (by decide) (fun h67 => ?_) (fun h67 => ?_)
              · replace hf := ifp h67 hf
                refine r_iconst (pc := 213) cx dX5_flipQueued_213 ic_0 ?_
                refine r_iload_n (pc := 214) cx dX5_flipQueued_214 3 rfl ?_
                replace hf := bd2_of hf
                obtain ⟨r68, v69, hc70, hf⟩ := hf
                refine r_Si (pc := 215) (ws' := [((q 0), ob 4 [.ref (q 1), .ref (q 2), .ref (q 3), .ref (q 4), .ref (q 5), .ref (q 6), .ref (q 7), .int (Qu_firstLoad v), .int (Qu_loads v), .int (Qu_firstBranch v), .int (Qu_branches v), .int (Qu_held v), .int (Qu_comparedHeld v)]), ((q 1), aI K 8 (Qu_loadAddress v)), ((q 2), aI K 8 (Qu_loadWord v)), ((q 3), aI K 8 (Qu_branch v)), ((q 4), aI K 8 (Qu_heldAddress v)), ((q 5), aI K 8 (Qu_heldWord v)), ((q 6), aI K 8 v69), ((q 7), aI K 8 (Qu_besideWord v))]) (wc := [((q 6), aI K 8 (Qu_besideAddress v))]) (nn := 1) cx [.ref (q 6), .int a2, .int (0 : Int32), .int a3] [] (m_Qu_flipIn l D K (fun i => q (i + 6)) (Qu_besideAddress v) a2 (0 : Int32) a3 hc70) rfl ys_X5_flipIn wd_945 ⟨rfl, rfl⟩ (by decide) (fr_k (fr_k (fr_k (fr_k (fr_k (fr_k (fr_s (j := 0) rfl rfl rfl (fr_k (fr_n))))))))) rfl (by decide) rfl (Nat.le_of_ble_eq_true rfl) dX5_flipQueued_215 ?_
                replace hf := chk_of hf
                obtain ⟨h71, hf⟩ := hf
                have hi := inj2 hf
                exact r_zret (pc := 218) cx h71 hi.1 (by rw [← hi.2]; (try simp only [cl_Qu, Qu_loadAddress_mk, Qu_loadWord_mk, Qu_branch_mk, Qu_heldAddress_mk, Qu_heldWord_mk, Qu_besideAddress_mk, Qu_besideWord_mk, Qu_firstLoad_mk, Qu_loads_mk, Qu_firstBranch_mk, Qu_branches_mk, Qu_held_mk, Qu_comparedHeld_mk, List.cons_append, List.nil_append, List.append_nil]) <;> rfl) dX5_flipQueued_218
              · replace hf := ifn h67 hf
                refine r_iload_n (pc := 203) cx dX5_flipQueued_203 3 rfl ?_
                refine r_bipush (pc := 204) cx dX5_flipQueued_204 bp_6 ?_
                refine r_icmp_ge (pc := 206) (tgt := 213) cx dX5_flipQueued_206 (by decide) (fun h72 => ?_) (fun h72 => ?_)
                · replace hf := ifp h72 hf
                  refine r_iconst (pc := 213) cx dX5_flipQueued_213 ic_0 ?_
                  refine r_iload_n (pc := 214) cx dX5_flipQueued_214 3 rfl ?_
                  replace hf := bd2_of hf
                  obtain ⟨r73, v74, hc75, hf⟩ := hf
                  refine r_Si (pc := 215) (ws' := [((q 0), ob 4 [.ref (q 1), .ref (q 2), .ref (q 3), .ref (q 4), .ref (q 5), .ref (q 6), .ref (q 7), .int (Qu_firstLoad v), .int (Qu_loads v), .int (Qu_firstBranch v), .int (Qu_branches v), .int (Qu_held v), .int (Qu_comparedHeld v)]), ((q 1), aI K 8 (Qu_loadAddress v)), ((q 2), aI K 8 (Qu_loadWord v)), ((q 3), aI K 8 (Qu_branch v)), ((q 4), aI K 8 (Qu_heldAddress v)), ((q 5), aI K 8 (Qu_heldWord v)), ((q 6), aI K 8 v74), ((q 7), aI K 8 (Qu_besideWord v))]) (wc := [((q 6), aI K 8 (Qu_besideAddress v))]) (nn := 1) cx [.ref (q 6), .int a2, .int (0 : Int32), .int a3] [] (m_Qu_flipIn l D K (fun i => q (i + 6)) (Qu_besideAddress v) a2 (0 : Int32) a3 hc75) rfl ys_X5_flipIn wd_945 ⟨rfl, rfl⟩ (by decide) (fr_k (fr_k (fr_k (fr_k (fr_k (fr_k (fr_s (j := 0) rfl rfl rfl (fr_k (fr_n))))))))) rfl (by decide) rfl (Nat.le_of_ble_eq_true rfl) dX5_flipQueued_215 ?_
                  replace hf := chk_of hf
                  obtain ⟨h76, hf⟩ := hf
                  have hi := inj2 hf
                  exact r_zret (pc := 218) cx h76 hi.1 (by rw [← hi.2]; (try simp only [cl_Qu, Qu_loadAddress_mk, Qu_loadWord_mk, Qu_branch_mk, Qu_heldAddress_mk, Qu_heldWord_mk, Qu_besideAddress_mk, Qu_besideWord_mk, Qu_firstLoad_mk, Qu_loads_mk, Qu_firstBranch_mk, Qu_branches_mk, Qu_held_mk, Qu_comparedHeld_mk, List.cons_append, List.nil_append, List.append_nil]) <;> rfl) dX5_flipQueued_218
                · replace hf := ifn h72 hf
                  refine r_iconst (pc := 209) cx dX5_flipQueued_209 ic_1 ?_
                  refine r_goto (pc := 210) (tgt := 214) cx dX5_flipQueued_210 (by decide) ?_
                  refine r_iload_n (pc := 214) cx dX5_flipQueued_214 3 rfl ?_
                  replace hf := bd2_of hf
                  obtain ⟨r77, v78, hc79, hf⟩ := hf
                  refine r_Si (pc := 215) (ws' := [((q 0), ob 4 [.ref (q 1), .ref (q 2), .ref (q 3), .ref (q 4), .ref (q 5), .ref (q 6), .ref (q 7), .int (Qu_firstLoad v), .int (Qu_loads v), .int (Qu_firstBranch v), .int (Qu_branches v), .int (Qu_held v), .int (Qu_comparedHeld v)]), ((q 1), aI K 8 (Qu_loadAddress v)), ((q 2), aI K 8 (Qu_loadWord v)), ((q 3), aI K 8 (Qu_branch v)), ((q 4), aI K 8 (Qu_heldAddress v)), ((q 5), aI K 8 (Qu_heldWord v)), ((q 6), aI K 8 v78), ((q 7), aI K 8 (Qu_besideWord v))]) (wc := [((q 6), aI K 8 (Qu_besideAddress v))]) (nn := 1) cx [.ref (q 6), .int a2, .int (1 : Int32), .int a3] [] (m_Qu_flipIn l D K (fun i => q (i + 6)) (Qu_besideAddress v) a2 (1 : Int32) a3 hc79) rfl ys_X5_flipIn wd_945 ⟨rfl, rfl⟩ (by decide) (fr_k (fr_k (fr_k (fr_k (fr_k (fr_k (fr_s (j := 0) rfl rfl rfl (fr_k (fr_n))))))))) rfl (by decide) rfl (Nat.le_of_ble_eq_true rfl) dX5_flipQueued_215 ?_
                  replace hf := chk_of hf
                  obtain ⟨h80, hf⟩ := hf
                  have hi := inj2 hf
                  exact r_zret (pc := 218) cx h80 hi.1 (by rw [← hi.2]; (try simp only [cl_Qu, Qu_loadAddress_mk, Qu_loadWord_mk, Qu_branch_mk, Qu_heldAddress_mk, Qu_heldWord_mk, Qu_besideAddress_mk, Qu_besideWord_mk, Qu_firstLoad_mk, Qu_loads_mk, Qu_firstBranch_mk, Qu_branches_mk, Qu_held_mk, Qu_comparedHeld_mk, List.cons_append, List.nil_append, List.append_nil]) <;> rfl) dX5_flipQueued_218
            · replace hf := ifn h66 hf
              by_cases h81 : a1 = (12 : Int32)
              · replace hf := ifp h81 hf
                refine r_tin (pc := 1) (tgt := 219) cx (12 : Int32) h81 dX5_flipQueued_1 (by decide) (by decide) rfl (by decide) ?_
                refine r_aload_n (pc := 219) cx dX5_flipQueued_219 0 rfl ?_
                refine r_get (pc := 220) cx cf_X5 0 6 rfl (by decide) rfl wd_351 dX5_flipQueued_220 ?_
                refine r_iload_n (pc := 223) cx dX5_flipQueued_223 2 rfl ?_
                refine r_iload_n (pc := 224) cx dX5_flipQueued_224 2 rfl ?_
                refine r_aload_n (pc := 225) cx dX5_flipQueued_225 0 rfl ?_
                refine r_get (pc := 226) cx cf_X5 0 12 rfl (by decide) rfl wd_363 dX5_flipQueued_226 ?_
                refine r_icmp_ge (pc := 229) (tgt := 236) cx dX5_flipQueued_229 (by decide) (fun h82 => ?_) (fun h82 => ?_)
                · replace hf := ifp h82 hf
                  refine r_iconst (pc := 236) cx dX5_flipQueued_236 ic_0 ?_
                  refine r_iload_n (pc := 237) cx dX5_flipQueued_237 3 rfl ?_
                  replace hf := bd2_of hf
                  obtain ⟨r83, v84, hc85, hf⟩ := hf
                  refine r_Si (pc := 238) (ws' := [((q 0), ob 4 [.ref (q 1), .ref (q 2), .ref (q 3), .ref (q 4), .ref (q 5), .ref (q 6), .ref (q 7), .int (Qu_firstLoad v), .int (Qu_loads v), .int (Qu_firstBranch v), .int (Qu_branches v), .int (Qu_held v), .int (Qu_comparedHeld v)]), ((q 1), aI K 8 (Qu_loadAddress v)), ((q 2), aI K 8 (Qu_loadWord v)), ((q 3), aI K 8 (Qu_branch v)), ((q 4), aI K 8 (Qu_heldAddress v)), ((q 5), aI K 8 (Qu_heldWord v)), ((q 6), aI K 8 (Qu_besideAddress v)), ((q 7), aI K 8 v84)]) (wc := [((q 7), aI K 8 (Qu_besideWord v))]) (nn := 1) cx [.ref (q 7), .int a2, .int (0 : Int32), .int a3] [] (m_Qu_flipIn l D K (fun i => q (i + 7)) (Qu_besideWord v) a2 (0 : Int32) a3 hc85) rfl ys_X5_flipIn wd_945 ⟨rfl, rfl⟩ (by decide) (fr_k (fr_k (fr_k (fr_k (fr_k (fr_k (fr_k (fr_s (j := 0) rfl rfl rfl (fr_n))))))))) rfl (by decide) rfl (Nat.le_of_ble_eq_true rfl) dX5_flipQueued_238 ?_
                  replace hf := chk_of hf
                  obtain ⟨h86, hf⟩ := hf
                  have hi := inj2 hf
                  exact r_zret (pc := 241) cx h86 hi.1 (by rw [← hi.2]; (try simp only [cl_Qu, Qu_loadAddress_mk, Qu_loadWord_mk, Qu_branch_mk, Qu_heldAddress_mk, Qu_heldWord_mk, Qu_besideAddress_mk, Qu_besideWord_mk, Qu_firstLoad_mk, Qu_loads_mk, Qu_firstBranch_mk, Qu_branches_mk, Qu_held_mk, Qu_comparedHeld_mk, List.cons_append, List.nil_append, List.append_nil]) <;> rfl) dX5_flipQueued_241
                · replace hf := ifn h82 hf
                  refine r_iconst (pc := 232) cx dX5_flipQueued_232 ic_1 ?_
                  refine r_goto (pc := 233) (tgt := 237) cx dX5_flipQueued_233 (by decide) ?_
                  refine r_iload_n (pc := 237) cx dX5_flipQueued_237 3 rfl ?_
                  replace hf := bd2_of hf
                  obtain ⟨r87, v88, hc89, hf⟩ := hf
                  refine r_Si (pc := 238) (ws' := [((q 0), ob 4 [.ref (q 1), .ref (q 2), .ref (q 3), .ref (q 4), .ref (q 5), .ref (q 6), .ref (q 7), .int (Qu_firstLoad v), .int (Qu_loads v), .int (Qu_firstBranch v), .int (Qu_branches v), .int (Qu_held v), .int (Qu_comparedHeld v)]), ((q 1), aI K 8 (Qu_loadAddress v)), ((q 2), aI K 8 (Qu_loadWord v)), ((q 3), aI K 8 (Qu_branch v)), ((q 4), aI K 8 (Qu_heldAddress v)), ((q 5), aI K 8 (Qu_heldWord v)), ((q 6), aI K 8 (Qu_besideAddress v)), ((q 7), aI K 8 v88)]) (wc := [((q 7), aI K 8 (Qu_besideWord v))]) (nn := 1) cx [.ref (q 7), .int a2, .int (1 : Int32), .int a3] [] (m_Qu_flipIn l D K (fun i => q (i + 7)) (Qu_besideWord v) a2 (1 : Int32) a3 hc89) rfl ys_X5_flipIn wd_945 ⟨rfl, rfl⟩ (by decide) (fr_k (fr_k (fr_k (fr_k (fr_k (fr_k (fr_k (fr_s (j := 0) rfl rfl rfl (fr_n))))))))) rfl (by decide) rfl (Nat.le_of_ble_eq_true rfl) dX5_flipQueued_238 ?_
                  replace hf := chk_of hf
                  obtain ⟨h90, hf⟩ := hf
                  have hi := inj2 hf
                  exact r_zret (pc := 241) cx h90 hi.1 (by rw [← hi.2]; (try simp only [cl_Qu, Qu_loadAddress_mk, Qu_loadWord_mk, Qu_branch_mk, Qu_heldAddress_mk, Qu_heldWord_mk, Qu_besideAddress_mk, Qu_besideWord_mk, Qu_firstLoad_mk, Qu_loads_mk, Qu_firstBranch_mk, Qu_branches_mk, Qu_held_mk, Qu_comparedHeld_mk, List.cons_append, List.nil_append, List.append_nil]) <;> rfl) dX5_flipQueued_241
              · replace hf := ifn h81 hf
                refine r_tout (pc := 1) (tgt := 242) cx dX5_flipQueued_1 (by
                  have nh1 := toInt_ne h1
                  have mh1 : (6 : Int32).toInt = 6 := by decide
                  rw [mh1] at nh1
                  have nh16 := toInt_ne h16
                  have mh16 : (7 : Int32).toInt = 7 := by decide
                  rw [mh16] at nh16
                  have nh26 := toInt_ne h26
                  have mh26 : (8 : Int32).toInt = 8 := by decide
                  rw [mh26] at nh26
                  have nh41 := toInt_ne h41
                  have mh41 : (9 : Int32).toInt = 9 := by decide
                  rw [mh41] at nh41
                  have nh56 := toInt_ne h56
                  have mh56 : (10 : Int32).toInt = 10 := by decide
                  rw [mh56] at nh56
                  have nh66 := toInt_ne h66
                  have mh66 : (11 : Int32).toInt = 11 := by decide
                  rw [mh66] at nh66
                  have nh81 := toInt_ne h81
                  have mh81 : (12 : Int32).toInt = 12 := by decide
                  rw [mh81] at nh81
                  omega) (by decide) ?_
                refine r_iconst (pc := 242) cx dX5_flipQueued_242 ic_0 ?_
                have hi := inj2 hf
                exact r_zret (pc := 243) cx (Or.inl rfl) hi.1 (by rw [← hi.2]; rfl) dX5_flipQueued_243
theorem yv_X5_flipQueued : YV yX5_flipQueued cX5_flipQueued 4 (some .boolean) 3 := ⟨⟨by decide +kernel, by decide +kernel, by decide +kernel⟩, wd_944, wd_97, wd_942, wd_943⟩
