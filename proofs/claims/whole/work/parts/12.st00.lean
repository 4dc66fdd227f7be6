abbrev rm_St_loosen : Room := { frames := 0, cells := 0, slots := 0, locals := 0 }
set_option maxRecDepth 100000 in
set_option maxHeartbeats 4000000 in
theorem m_St_loosen (l : Launch) (D : va_G) (K : Nat → ClassId) (q : Nat → Nat) (v : T_St) {o_v : T_St} (hf : f_St_loosen v = some o_v) : MV l yX7_loosen cX7_loosen 2 (none) rm_St_loosen D K [.ref (q 0)] (cl_St K q v) (cl_St K q o_v) := by
  refine MV_of (loc0 := [(0, .ref (q 0))]) (by decide +kernel) rfl (Nat.le_of_ble_eq_true rfl) ?_
  intro p e s m args below meth c A cx
  unfold f_St_loosen at hf
  refine r_ws (ws' := [((q 0), ob 6 [.ref (q 1), .ref (q 2), .ref (q 3), .ref (q 4), .int (St_place v), .int (St_steps v)]), ((q 1), aI K 8 (St_registers v)), ((q 2), aI K 4 (St_floats v)), ((q 3), aI K 8 (St_stuckMask v)), ((q 4), aI K 8 (St_stuckOnes v))]) rfl ?_
  refine r_iconst (pc := 0) cx dX7_loosen_0 ic_0 ?_
  refine r_istore_n (pc := 1) (loc' := [(1, .int (0 : Int32)), (0, .ref (q 0))]) cx dX7_loosen_1 rfl (by decide) rfl ?_
  have hL2 : ∀ (k2_28 : (Nat → Int32) → (Nat → Int32) → Option (T_St)), (∀ (f4 : (Nat → Int32)) (f5 : (Nat → Int32)), k2_28 f4 f5 = some o_v → WW p l e rm_St_loosen s m args below meth c D A 2 0 0 (MQ below (QV D K A (cl_St K q o_v)) args s 0 0 A) ([((q 0), ob 6 [.ref (q 1), .ref (q 2), .ref (q 3), .ref (q 4), .int (St_place v), .int (St_steps v)]), ((q 1), aI K 8 (St_registers v)), ((q 2), aI K 4 (St_floats v)), ((q 3), aI K 8 f4), ((q 4), aI K 8 f5)]) ([]) ([]) 28) → ∀ (n2 : Nat) (x1 : Int32) (f2 : (Nat → Int32)) (f3 : (Nat → Int32)), f_St_loosen_L2 k2_28 n2 x1 f2 f3 = some o_v → WW p l e rm_St_loosen s m args below meth c D A 2 0 0 (MQ below (QV D K A (cl_St K q o_v)) args s 0 0 A) ([((q 0), ob 6 [.ref (q 1), .ref (q 2), .ref (q 3), .ref (q 4), .int (St_place v), .int (St_steps v)]), ((q 1), aI K 8 (St_registers v)), ((q 2), aI K 4 (St_floats v)), ((q 3), aI K 8 f2), ((q 4), aI K 8 f3)]) ([(0, .ref (q 0)), (1, .int x1)]) ([]) 2 := by
    clear hf
    intro k2_28 hk2_28 n2
    induction n2 with
    | zero => intro x1 f2 f3 hf; exact (nomatch (show (none : Option (T_St)) = some _ from hf))
    | succ n2 ih2 =>
      intro x1 f2 f3 hf
      rw [f_St_loosen_L2] at hf
      refine r_iload_n (pc := 2) cx dX7_loosen_2 1 rfl ?_
      refine r_bipush (pc := 3) cx dX7_loosen_3 bp_8 ?_
      refine r_icmp_ge (pc := 5) (tgt := 28) cx dX7_loosen_5 (by decide) (fun h6 => ?_) (fun h6 => ?_)
      · replace hf := ifp h6 hf
        refine r_loc (loc' := []) [] rfl ?_
        exact hk2_28 _ _ hf
      · replace hf := ifn h6 hf
        refine r_aload_n (pc := 8) cx dX7_loosen_8 0 rfl ?_
        refine r_get (pc := 9) cx cf_X7 0 2 rfl (by decide) rfl wd_315 dX7_loosen_9 ?_
        refine r_iload_n (pc := 12) cx dX7_loosen_12 1 rfl ?_
        refine r_iconst (pc := 13) cx dX7_loosen_13 ic_0 ?_
        replace hf := chk_of hf
        obtain ⟨h7, hf⟩ := hf
        replace hf := nm_of hf
        obtain ⟨f8, ef8, hf⟩ := hf
        refine r_iast (pc := 14) (ws' := [((q 0), ob 6 [.ref (q 1), .ref (q 2), .ref (q 3), .ref (q 4), .int (St_place v), .int (St_steps v)]), ((q 1), aI K 8 (St_registers v)), ((q 2), aI K 4 (St_floats v)), ((q 3), aI K 8 f8), ((q 4), aI K 8 f3)]) cx 3 rfl h7 dX7_loosen_14 ef8 rfl ?_
        refine r_aload_n (pc := 15) cx dX7_loosen_15 0 rfl ?_
        refine r_get (pc := 16) cx cf_X7 0 3 rfl (by decide) rfl wd_316 dX7_loosen_16 ?_
        refine r_iload_n (pc := 19) cx dX7_loosen_19 1 rfl ?_
        refine r_iconst (pc := 20) cx dX7_loosen_20 ic_0 ?_
        replace hf := chk_of hf
        obtain ⟨h9, hf⟩ := hf
        replace hf := nm_of hf
        obtain ⟨f10, ef10, hf⟩ := hf
        refine r_iast (pc := 21) (ws' := [((q 0), ob 6 [.ref (q 1), .ref (q 2), .ref (q 3), .ref (q 4), .int (St_place v), .int (St_steps v)]), ((q 1), aI K 8 (St_registers v)), ((q 2), aI K 4 (St_floats v)), ((q 3), aI K 8 f8), ((q 4), aI K 8 f10)]) cx 4 rfl h9 dX7_loosen_21 ef10 rfl ?_
        replace hf := nm_of hf
        obtain ⟨x11, ex11, hf⟩ := hf
        refine r_iinc (pc := 22) (loc' := [(1, .int x11), (0, .ref (q 0))]) (v := x11) cx dX7_loosen_22 1 rfl ((congrArg (fun z => x1 + z) ic_1).trans ex11.symm) (by decide) rfl ?_
        refine r_goto (pc := 25) (tgt := 2) cx dX7_loosen_25 (by decide) ?_
        refine r_loc (loc' := [(0, .ref (q 0)), (1, .int x11)]) [1, 0] rfl ?_
        exact ih2 _ _ _ hf
  refine r_loc (loc' := [(0, .ref (q 0)), (1, .int (0 : Int32))]) [1, 0] rfl ?_
  refine hL2 _ (fun f4 f5 hf => ?_) _ _ _ _ hf
  have hi := inj1 hf
  exact r_vret (pc := 28) cx (by rw [← hi]; (try simp only [cl_St, St_registers_mk, St_floats_mk, St_stuckMask_mk, St_stuckOnes_mk, St_place_mk, St_steps_mk, List.cons_append, List.nil_append, List.append_nil]) <;> rfl) dX7_loosen_28
theorem yv_X7_loosen : YV yX7_loosen cX7_loosen 2 (none) 0 := ⟨⟨by decide +kernel, by decide +kernel, by decide +kernel⟩, wd_496, wd_96, wd_494, wd_495⟩
abbrev rm_St_clear : Room := { frames := 1, cells := 0, slots := 0, locals := 21 }
set_option maxRecDepth 100000 in
set_option maxHeartbeats 4000000 in
theorem m_St_clear (l : Launch) (D : va_G) (K : Nat → ClassId) (q : Nat → Nat) (v : T_St) {o_v : T_St} (hf : f_St_clear v = some o_v) : MV l yX7_clear cX7_clear 2 (none) rm_St_clear D K [.ref (q 0)] (cl_St K q v) (cl_St K q o_v) := by
  refine MV_of (loc0 := [(0, .ref (q 0))]) (by decide +kernel) rfl (Nat.le_of_ble_eq_true rfl) ?_
  intro p e s m args below meth c A cx
  unfold f_St_clear at hf
  refine r_ws (ws' := [((q 0), ob 6 [.ref (q 1), .ref (q 2), .ref (q 3), .ref (q 4), .int (St_place v), .int (St_steps v)]), ((q 1), aI K 8 (St_registers v)), ((q 2), aI K 4 (St_floats v)), ((q 3), aI K 8 (St_stuckMask v)), ((q 4), aI K 8 (St_stuckOnes v))]) rfl ?_
  refine r_iconst (pc := 0) cx dX7_clear_0 ic_0 ?_
  refine r_istore_n (pc := 1) (loc' := [(1, .int (0 : Int32)), (0, .ref (q 0))]) cx dX7_clear_1 rfl (by decide) rfl ?_
  have hL2 : ∀ (k2_30 : (Nat → Int32) → (Nat → Int32) → Option (T_St)), (∀ (f4 : (Nat → Int32)) (f5 : (Nat → Int32)), k2_30 f4 f5 = some o_v → WW p l e rm_St_clear s m args below meth c D A 2 0 0 (MQ below (QV D K A (cl_St K q o_v)) args s 0 0 A) ([((q 0), ob 6 [.ref (q 1), .ref (q 2), .ref (q 3), .ref (q 4), .int (St_place v), .int (St_steps v)]), ((q 1), aI K 8 f5), ((q 2), aI K 4 f4), ((q 3), aI K 8 (St_stuckMask v)), ((q 4), aI K 8 (St_stuckOnes v))]) ([(0, .ref (q 0))]) ([]) 30) → ∀ (n2 : Nat) (x1 : Int32) (f2 : (Nat → Int32)) (f3 : (Nat → Int32)), f_St_clear_L2 k2_30 n2 x1 f2 f3 = some o_v → WW p l e rm_St_clear s m args below meth c D A 2 0 0 (MQ below (QV D K A (cl_St K q o_v)) args s 0 0 A) ([((q 0), ob 6 [.ref (q 1), .ref (q 2), .ref (q 3), .ref (q 4), .int (St_place v), .int (St_steps v)]), ((q 1), aI K 8 f3), ((q 2), aI K 4 f2), ((q 3), aI K 8 (St_stuckMask v)), ((q 4), aI K 8 (St_stuckOnes v))]) ([(0, .ref (q 0)), (1, .int x1)]) ([]) 2 := by
    clear hf
    intro k2_30 hk2_30 n2
    induction n2 with
    | zero => intro x1 f2 f3 hf; exact (nomatch (show (none : Option (T_St)) = some _ from hf))
    | succ n2 ih2 =>
      intro x1 f2 f3 hf
      rw [f_St_clear_L2] at hf
      refine r_iload_n (pc := 2) cx dX7_clear_2 1 rfl ?_
      refine r_bipush (pc := 3) cx dX7_clear_3 bp_8 ?_
      refine r_icmp_ge (pc := 5) (tgt := 30) cx dX7_clear_5 (by decide) (fun h6 => ?_) (fun h6 => ?_)
      · replace hf := ifp h6 hf
        refine r_loc (loc' := [(0, .ref (q 0))]) [0] rfl ?_
        exact hk2_30 _ _ hf
      · replace hf := ifn h6 hf
        refine r_aload_n (pc := 8) cx dX7_clear_8 0 rfl ?_
        refine r_get (pc := 9) cx cf_X7 0 0 rfl (by decide) rfl wd_311 dX7_clear_9 ?_
        refine r_iload_n (pc := 12) cx dX7_clear_12 1 rfl ?_
        refine r_iconst (pc := 13) cx dX7_clear_13 ic_0 ?_
        replace hf := chk_of hf
        obtain ⟨h7, hf⟩ := hf
        replace hf := nm_of hf
        obtain ⟨f8, ef8, hf⟩ := hf
        refine r_iast (pc := 14) (ws' := [((q 0), ob 6 [.ref (q 1), .ref (q 2), .ref (q 3), .ref (q 4), .int (St_place v), .int (St_steps v)]), ((q 1), aI K 8 f8), ((q 2), aI K 4 f2), ((q 3), aI K 8 (St_stuckMask v)), ((q 4), aI K 8 (St_stuckOnes v))]) cx 1 rfl h7 dX7_clear_14 ef8 rfl ?_
        refine r_aload_n (pc := 15) cx dX7_clear_15 0 rfl ?_
        refine r_get (pc := 16) cx cf_X7 0 1 rfl (by decide) rfl wd_313 dX7_clear_16 ?_
        refine r_iload_n (pc := 19) cx dX7_clear_19 1 rfl ?_
        refine r_iconst (pc := 20) cx dX7_clear_20 ic_3 ?_
        refine r_iand (pc := 21) cx dX7_clear_21 ?_
        refine r_iconst (pc := 22) cx dX7_clear_22 ic_0 ?_
        replace hf := nm_of hf
        obtain ⟨f9, ef9, hf⟩ := hf
        refine r_iast (pc := 23) (ws' := [((q 0), ob 6 [.ref (q 1), .ref (q 2), .ref (q 3), .ref (q 4), .int (St_place v), .int (St_steps v)]), ((q 1), aI K 8 f8), ((q 2), aI K 4 f9), ((q 3), aI K 8 (St_stuckMask v)), ((q 4), aI K 8 (St_stuckOnes v))]) cx 2 rfl (ix_and3 _) dX7_clear_23 ef9 rfl ?_
        replace hf := nm_of hf
        obtain ⟨x10, ex10, hf⟩ := hf
        refine r_iinc (pc := 24) (loc' := [(1, .int x10), (0, .ref (q 0))]) (v := x10) cx dX7_clear_24 1 rfl ((congrArg (fun z => x1 + z) ic_1).trans ex10.symm) (by decide) rfl ?_
        refine r_goto (pc := 27) (tgt := 2) cx dX7_clear_27 (by decide) ?_
        refine r_loc (loc' := [(0, .ref (q 0)), (1, .int x10)]) [1, 0] rfl ?_
        exact ih2 _ _ _ hf
  refine r_loc (loc' := [(0, .ref (q 0)), (1, .int (0 : Int32))]) [1, 0] rfl ?_
  refine hL2 _ (fun f4 f5 hf => ?_) _ _ _ _ hf
  refine r_aload_n (pc := 30) cx dX7_clear_30 0 rfl ?_
  replace hf := bd_of hf
  obtain ⟨v11, hc12, hf⟩ := hf
  refine r_Vv (pc := 31) (ws' := [((q 0), ob 6 [.ref (q 1), .ref (q 2), .ref (q 3), .ref (q 4), .int (St_place v11), .int (St_steps v11)]), ((q 1), aI K 8 (St_registers v11)), ((q 2), aI K 4 (St_floats v11)), ((q 3), aI K 8 (St_stuckMask v11)), ((q 4), aI K 8 (St_stuckOnes v11))]) (wc := [((q 0), ob 6 [.ref (q 1), .ref (q 2), .ref (q 3), .ref (q 4), .int (St_place v), .int (St_steps v)]), ((q 1), aI K 8 f5), ((q 2), aI K 4 f4), ((q 3), aI K 8 (St_stuckMask v)), ((q 4), aI K 8 (St_stuckOnes v))]) (nn := 5) cx [] [] (m_St_loosen l D K q (f5, f4, (St_stuckMask v), (St_stuckOnes v), (St_place v), (St_steps v)) hc12) (by (try simp only [cl_St, St_registers_mk, St_floats_mk, St_stuckMask_mk, St_stuckOnes_mk, St_place_mk, St_steps_mk, List.cons_append, List.nil_append, List.append_nil]) <;> rfl) yv_X7_loosen wd_493 ⟨rfl, rfl⟩ (by decide) (fr_s (j := 0) rfl rfl rfl (fr_s (j := 1) rfl rfl rfl (fr_s (j := 2) rfl rfl rfl (fr_s (j := 3) rfl rfl rfl (fr_s (j := 4) rfl rfl rfl (fr_n)))))) rfl (by decide) 0 rfl rfl rfl (Nat.le_of_ble_eq_true rfl) dX7_clear_31 ?_
  refine r_aload_n (pc := 34) cx dX7_clear_34 0 rfl ?_
  refine r_iconst (pc := 35) cx dX7_clear_35 ic_0 ?_
  refine r_putI (pc := 36) (ws' := [((q 0), ob 6 [.ref (q 1), .ref (q 2), .ref (q 3), .ref (q 4), .int (0 : Int32), .int (St_steps v11)]), ((q 1), aI K 8 (St_registers v11)), ((q 2), aI K 4 (St_floats v11)), ((q 3), aI K 8 (St_stuckMask v11)), ((q 4), aI K 8 (St_stuckOnes v11))]) cx cf_X7 0 4 rfl (by decide) (Nat.le_of_ble_eq_true rfl) rfl pfd_I wd_317 dX7_clear_36 rfl ?_
  refine r_aload_n (pc := 39) cx dX7_clear_39 0 rfl ?_
  refine r_iconst (pc := 40) cx dX7_clear_40 ic_0 ?_
  refine r_putI (pc := 41) (ws' := [((q 0), ob 6 [.ref (q 1), .ref (q 2), .ref (q 3), .ref (q 4), .int (0 : Int32), .int (0 : Int32)]), ((q 1), aI K 8 (St_registers v11)), ((q 2), aI K 4 (St_floats v11)), ((q 3), aI K 8 (St_stuckMask v11)), ((q 4), aI K 8 (St_stuckOnes v11))]) cx cf_X7 0 5 rfl (by decide) (Nat.le_of_ble_eq_true rfl) rfl pfd_I wd_321 dX7_clear_41 rfl ?_
  have hi := inj1 hf
  exact r_vret (pc := 44) cx (by rw [← hi]; (try simp only [cl_St, St_registers_mk, St_floats_mk, St_stuckMask_mk, St_stuckOnes_mk, St_place_mk, St_steps_mk, List.cons_append, List.nil_append, List.append_nil]) <;> rfl) dX7_clear_44
theorem yv_X7_clear : YV yX7_clear cX7_clear 2 (none) 0 := ⟨⟨by decide +kernel, by decide +kernel, by decide +kernel⟩, wd_492, wd_96, wd_490, wd_491⟩
abbrev rm_St_lay : Room := { frames := 0, cells := 0, slots := 0, locals := 0 }
set_option maxRecDepth 100000 in
set_option maxHeartbeats 4000000 in
theorem m_St_lay (l : Launch) (D : va_G) (K : Nat → ClassId) (q : Nat → Nat) (v : T_St) (a1 : Int32) (a2 : Int32) {o_v : T_St} (hf : f_St_lay v a1 a2 = some o_v) : MV l yX7_lay cX7_lay 4 (none) rm_St_lay D K [.ref (q 0), .int a1, .int a2] (cl_St K q v) (cl_St K q o_v) := by
  refine MV_of (loc0 := [(0, .ref (q 0)), (1, .int a1), (2, .int a2)]) (by decide +kernel) rfl (Nat.le_of_ble_eq_true rfl) ?_
  intro p e s m args below meth c A cx
  unfold f_St_lay at hf
  refine r_ws (ws' := [((q 0), ob 6 [.ref (q 1), .ref (q 2), .ref (q 3), .ref (q 4), .int (St_place v), .int (St_steps v)]), ((q 1), aI K 8 (St_registers v)), ((q 2), aI K 4 (St_floats v)), ((q 3), aI K 8 (St_stuckMask v)), ((q 4), aI K 8 (St_stuckOnes v))]) rfl ?_
  refine r_iload_n (pc := 0) cx dX7_lay_0 1 rfl ?_
  refine r_bipush (pc := 1) cx dX7_lay_1 bp_7 ?_
  refine r_iand (pc := 3) cx dX7_lay_3 ?_
  replace hf := nm_of hf
  obtain ⟨x1, ex1, hf⟩ := hf
  refine r_nm ex1 ?_
  refine r_istore_n (pc := 4) (loc' := [(3, .int x1), (0, .ref (q 0)), (1, .int a1), (2, .int a2)]) cx dX7_lay_4 rfl (by decide) rfl ?_
  refine r_aload_n (pc := 5) cx dX7_lay_5 1 rfl ?_
  refine r_get (pc := 6) cx cf_X7 0 0 rfl (by decide) rfl wd_311 dX7_lay_6 ?_
  refine r_iload_n (pc := 9) cx dX7_lay_9 0 rfl ?_
  refine r_iload_n (pc := 10) cx dX7_lay_10 3 rfl ?_
  refine r_aload_n (pc := 11) cx dX7_lay_11 1 rfl ?_
  refine r_get (pc := 12) cx cf_X7 0 2 rfl (by decide) rfl wd_315 dX7_lay_12 ?_
  refine r_iload_n (pc := 15) cx dX7_lay_15 0 rfl ?_
  refine r_iald (pc := 16) cx 3 rfl (by rw [ex1]; exact ix_and7 _) dX7_lay_16 ?_
  refine r_iconst (pc := 17) cx dX7_lay_17 ic_m1 ?_
  refine r_ixor (pc := 18) cx dX7_lay_18 ?_
  refine r_iand (pc := 19) cx dX7_lay_19 ?_
  refine r_aload_n (pc := 20) cx dX7_lay_20 1 rfl ?_
  refine r_get (pc := 21) cx cf_X7 0 3 rfl (by decide) rfl wd_316 dX7_lay_21 ?_
  refine r_iload_n (pc := 24) cx dX7_lay_24 0 rfl ?_
  refine r_iald (pc := 25) cx 4 rfl (by rw [ex1]; exact ix_and7 _) dX7_lay_25 ?_
  refine r_ior (pc := 26) cx dX7_lay_26 ?_
  replace hf := nm_of hf
  obtain ⟨x2, ex2, hf⟩ := hf
  refine r_nm ex2 ?_
  replace hf := nm_of hf
  obtain ⟨f3, ef3, hf⟩ := hf
  refine r_iast (pc := 27) (ws' := [((q 0), ob 6 [.ref (q 1), .ref (q 2), .ref (q 3), .ref (q 4), .int (St_place v), .int (St_steps v)]), ((q 1), aI K 8 f3), ((q 2), aI K 4 (St_floats v)), ((q 3), aI K 8 (St_stuckMask v)), ((q 4), aI K 8 (St_stuckOnes v))]) cx 1 rfl (by rw [ex1]; exact ix_and7 _) dX7_lay_27 ef3 rfl ?_
  have hi := inj1 hf
  exact r_vret (pc := 28) cx (by rw [← hi]; (try simp only [cl_St, St_registers_mk, St_floats_mk, St_stuckMask_mk, St_stuckOnes_mk, St_place_mk, St_steps_mk, List.cons_append, List.nil_append, List.append_nil]) <;> rfl) dX7_lay_28
theorem yv_X7_lay : YV yX7_lay cX7_lay 4 (none) 2 := ⟨⟨by decide +kernel, by decide +kernel, by decide +kernel⟩, wd_800, wd_96, wd_798, wd_799⟩
abbrev rm_St_standAs : Room := { frames := 1, cells := 0, slots := 0, locals := 23 }
set_option maxRecDepth 100000 in
set_option maxHeartbeats 4000000 in
theorem m_St_standAs (l : Launch) (D : va_G) (K : Nat → ClassId) (q : Nat → Nat) (v : T_St) (qw : Nat → Nat) (w : T_St) {o_v : T_St} (hf : f_St_standAs v w = some o_v) : MV l yX7_standAs cX7_standAs 3 (none) rm_St_standAs D K [.ref (q 0), .ref (qw 0)] (cl_St K q v ++ (cl_St K qw w)) (cl_St K q o_v ++ (cl_St K qw w)) := by
  refine MV_of (loc0 := [(0, .ref (q 0)), (1, .ref (qw 0))]) (by decide +kernel) rfl (Nat.le_of_ble_eq_true rfl) ?_
  intro p e s m args below meth c A cx
  unfold f_St_standAs at hf
  refine r_ws (ws' := [((q 0), ob 6 [.ref (q 1), .ref (q 2), .ref (q 3), .ref (q 4), .int (St_place v), .int (St_steps v)]), ((q 1), aI K 8 (St_registers v)), ((q 2), aI K 4 (St_floats v)), ((q 3), aI K 8 (St_stuckMask v)), ((q 4), aI K 8 (St_stuckOnes v)), ((qw 0), ob 6 [.ref (qw 1), .ref (qw 2), .ref (qw 3), .ref (qw 4), .int (St_place w), .int (St_steps w)]), ((qw 1), aI K 8 (St_registers w)), ((qw 2), aI K 4 (St_floats w)), ((qw 3), aI K 8 (St_stuckMask w)), ((qw 4), aI K 8 (St_stuckOnes w))]) rfl ?_
  refine r_iconst (pc := 0) cx dX7_standAs_0 ic_0 ?_
  refine r_istore_n (pc := 1) (loc' := [(2, .int (0 : Int32)), (0, .ref (q 0)), (1, .ref (qw 0))]) cx dX7_standAs_1 rfl (by decide) rfl ?_
  have hL2 : ∀ (k2_41 : T_St → Option (T_St)), (∀ (v3 : T_St), k2_41 v3 = some o_v → WW p l e rm_St_standAs s m args below meth c D A 3 0 0 (MQ below (QV D K A (cl_St K q o_v ++ (cl_St K qw w))) args s 0 0 A) ([((q 0), ob 6 [.ref (q 1), .ref (q 2), .ref (q 3), .ref (q 4), .int (St_place v3), .int (St_steps v3)]), ((q 1), aI K 8 (St_registers v3)), ((q 2), aI K 4 (St_floats v3)), ((q 3), aI K 8 (St_stuckMask v3)), ((q 4), aI K 8 (St_stuckOnes v3)), ((qw 0), ob 6 [.ref (qw 1), .ref (qw 2), .ref (qw 3), .ref (qw 4), .int (St_place w), .int (St_steps w)]), ((qw 1), aI K 8 (St_registers w)), ((qw 2), aI K 4 (St_floats w)), ((qw 3), aI K 8 (St_stuckMask w)), ((qw 4), aI K 8 (St_stuckOnes w))]) ([(0, .ref (q 0)), (1, .ref (qw 0))]) ([]) 41) → ∀ (n2 : Nat) (x1 : Int32) (v2 : T_St), f_St_standAs_L2 w k2_41 n2 x1 v2 = some o_v → WW p l e rm_St_standAs s m args below meth c D A 3 0 0 (MQ below (QV D K A (cl_St K q o_v ++ (cl_St K qw w))) args s 0 0 A) ([((q 0), ob 6 [.ref (q 1), .ref (q 2), .ref (q 3), .ref (q 4), .int (St_place v2), .int (St_steps v2)]), ((q 1), aI K 8 (St_registers v2)), ((q 2), aI K 4 (St_floats v2)), ((q 3), aI K 8 (St_stuckMask v2)), ((q 4), aI K 8 (St_stuckOnes v2)), ((qw 0), ob 6 [.ref (qw 1), .ref (qw 2), .ref (qw 3), .ref (qw 4), .int (St_place w), .int (St_steps w)]), ((qw 1), aI K 8 (St_registers w)), ((qw 2), aI K 4 (St_floats w)), ((qw 3), aI K 8 (St_stuckMask w)), ((qw 4), aI K 8 (St_stuckOnes w))]) ([(0, .ref (q 0)), (1, .ref (qw 0)), (2, .int x1)]) ([]) 2 := by
    clear hf
    intro k2_41 hk2_41 n2
    induction n2 with
    | zero => intro x1 v2 hf; exact (nomatch (show (none : Option (T_St)) = some _ from hf))
    | succ n2 ih2 =>
      intro x1 v2 hf
      rw [f_St_standAs_L2] at hf
      refine r_iload_n (pc := 2) cx dX7_standAs_2 2 rfl ?_
      refine r_bipush (pc := 3) cx dX7_standAs_3 bp_8 ?_
      refine r_icmp_ge (pc := 5) (tgt := 41) cx dX7_standAs_5 (by decide) (fun h4 => ?_) (fun h4 => ?_)
      · replace hf := ifp h4 hf
        refine r_loc (loc' := [(0, .ref (q 0)), (1, .ref (qw 0))]) [0, 1] rfl ?_
        exact hk2_41 _ hf
      · replace hf := ifn h4 hf
        refine r_aload_n (pc := 8) cx dX7_standAs_8 0 rfl ?_
        refine r_iload_n (pc := 9) cx dX7_standAs_9 2 rfl ?_
        refine r_aload_n (pc := 10) cx dX7_standAs_10 1 rfl ?_
        refine r_get (pc := 11) cx cf_X7 5 0 rfl (by decide) rfl wd_311 dX7_standAs_11 ?_
        refine r_iload_n (pc := 14) cx dX7_standAs_14 2 rfl ?_
        replace hf := chk_of hf
        obtain ⟨h5, hf⟩ := hf
        refine r_iald (pc := 15) cx 6 rfl h5 dX7_standAs_15 ?_
        replace hf := bd_of hf
        obtain ⟨v6, hc7, hf⟩ := hf
        refine r_Vv (pc := 16) (ws' := [((q 0), ob 6 [.ref (q 1), .ref (q 2), .ref (q 3), .ref (q 4), .int (St_place v6), .int (St_steps v6)]), ((q 1), aI K 8 (St_registers v6)), ((q 2), aI K 4 (St_floats v6)), ((q 3), aI K 8 (St_stuckMask v6)), ((q 4), aI K 8 (St_stuckOnes v6)), ((qw 0), ob 6 [.ref (qw 1), .ref (qw 2), .ref (qw 3), .ref (qw 4), .int (St_place w), .int (St_steps w)]), ((qw 1), aI K 8 (St_registers w)), ((qw 2), aI K 4 (St_floats w)), ((qw 3), aI K 8 (St_stuckMask w)), ((qw 4), aI K 8 (St_stuckOnes w))]) (wc := [((q 0), ob 6 [.ref (q 1), .ref (q 2), .ref (q 3), .ref (q 4), .int (St_place v2), .int (St_steps v2)]), ((q 1), aI K 8 (St_registers v2)), ((q 2), aI K 4 (St_floats v2)), ((q 3), aI K 8 (St_stuckMask v2)), ((q 4), aI K 8 (St_stuckOnes v2))]) (nn := 5) cx [.int x1, .int ((St_registers w) x1.toNatClampNeg)] [] (m_St_lay l D K q v2 x1 ((St_registers w) x1.toNatClampNeg) hc7) rfl yv_X7_lay wd_797 ⟨rfl, rfl⟩ (by decide) (fr_s (j := 0) rfl rfl rfl (fr_s (j := 1) rfl rfl rfl (fr_s (j := 2) rfl rfl rfl (fr_s (j := 3) rfl rfl rfl (fr_s (j := 4) rfl rfl rfl (fr_k (fr_k (fr_k (fr_k (fr_k (fr_n))))))))))) rfl (by decide) 0 rfl rfl rfl (Nat.le_of_ble_eq_true rfl) dX7_standAs_16 ?_
        refine r_aload_n (pc := 19) cx dX7_standAs_19 0 rfl ?_
        refine r_get (pc := 20) cx cf_X7 0 1 rfl (by decide) rfl wd_313 dX7_standAs_20 ?_
        refine r_iload_n (pc := 23) cx dX7_standAs_23 2 rfl ?_
        refine r_iconst (pc := 24) cx dX7_standAs_24 ic_3 ?_
        refine r_iand (pc := 25) cx dX7_standAs_25 ?_
        refine r_aload_n (pc := 26) cx dX7_standAs_26 1 rfl ?_
        refine r_get (pc := 27) cx cf_X7 5 1 rfl (by decide) rfl wd_313 dX7_standAs_27 ?_
        refine r_iload_n (pc := 30) cx dX7_standAs_30 2 rfl ?_
        refine r_iconst (pc := 31) cx dX7_standAs_31 ic_3 ?_
        refine r_iand (pc := 32) cx dX7_standAs_32 ?_
        refine r_iald (pc := 33) cx 7 rfl (ix_and3 _) dX7_standAs_33 ?_
        replace hf := nm_of hf
        obtain ⟨x8, ex8, hf⟩ := hf
        refine r_nm ex8 ?_
        replace hf := nm_of hf
        obtain ⟨f9, ef9, hf⟩ := hf
        refine r_iast (pc := 34) (ws' := [((q 0), ob 6 [.ref (q 1), .ref (q 2), .ref (q 3), .ref (q 4), .int (St_place v6), .int (St_steps v6)]), ((q 1), aI K 8 (St_registers v6)), ((q 2), aI K 4 f9), ((q 3), aI K 8 (St_stuckMask v6)), ((q 4), aI K 8 (St_stuckOnes v6)), ((qw 0), ob 6 [.ref (qw 1), .ref (qw 2), .ref (qw 3), .ref (qw 4), .int (St_place w), .int (St_steps w)]), ((qw 1), aI K 8 (St_registers w)), ((qw 2), aI K 4 (St_floats w)), ((qw 3), aI K 8 (St_stuckMask w)), ((qw 4), aI K 8 (St_stuckOnes w))]) cx 2 rfl (ix_and3 _) dX7_standAs_34 ef9 rfl ?_
        replace hf := nm_of hf
        obtain ⟨x10, ex10, hf⟩ := hf
        refine r_iinc (pc := 35) (loc' := [(2, .int x10), (0, .ref (q 0)), (1, .ref (qw 0))]) (v := x10) cx dX7_standAs_35 2 rfl ((congrArg (fun z => x1 + z) ic_1).trans ex10.symm) (by decide) rfl ?_
        refine r_goto (pc := 38) (tgt := 2) cx dX7_standAs_38 (by decide) ?_
        refine r_loc (loc' := [(0, .ref (q 0)), (1, .ref (qw 0)), (2, .int x10)]) [1, 2, 0] rfl ?_
        exact ih2 _ _ hf
  refine r_loc (loc' := [(0, .ref (q 0)), (1, .ref (qw 0)), (2, .int (0 : Int32))]) [1, 2, 0] rfl ?_
  refine hL2 _ (fun v3 hf => ?_) _ _ _ hf
  refine r_aload_n (pc := 41) cx dX7_standAs_41 0 rfl ?_
  refine r_aload_n (pc := 42) cx dX7_standAs_42 1 rfl ?_
  refine r_get (pc := 43) cx cf_X7 5 4 rfl (by decide) rfl wd_317 dX7_standAs_43 ?_
  replace hf := nm_of hf
  obtain ⟨x11, ex11, hf⟩ := hf
  refine r_nm ex11 ?_
  refine r_putI (pc := 46) (ws' := [((q 0), ob 6 [.ref (q 1), .ref (q 2), .ref (q 3), .ref (q 4), .int x11, .int (St_steps v3)]), ((q 1), aI K 8 (St_registers v3)), ((q 2), aI K 4 (St_floats v3)), ((q 3), aI K 8 (St_stuckMask v3)), ((q 4), aI K 8 (St_stuckOnes v3)), ((qw 0), ob 6 [.ref (qw 1), .ref (qw 2), .ref (qw 3), .ref (qw 4), .int (St_place w), .int (St_steps w)]), ((qw 1), aI K 8 (St_registers w)), ((qw 2), aI K 4 (St_floats w)), ((qw 3), aI K 8 (St_stuckMask w)), ((qw 4), aI K 8 (St_stuckOnes w))]) cx cf_X7 0 4 rfl (by decide) (Nat.le_of_ble_eq_true rfl) rfl pfd_I wd_317 dX7_standAs_46 rfl ?_
  refine r_aload_n (pc := 49) cx dX7_standAs_49 0 rfl ?_
  refine r_iconst (pc := 50) cx dX7_standAs_50 ic_0 ?_
  refine r_putI (pc := 51) (ws' := [((q 0), ob 6 [.ref (q 1), .ref (q 2), .ref (q 3), .ref (q 4), .int x11, .int (0 : Int32)]), ((q 1), aI K 8 (St_registers v3)), ((q 2), aI K 4 (St_floats v3)), ((q 3), aI K 8 (St_stuckMask v3)), ((q 4), aI K 8 (St_stuckOnes v3)), ((qw 0), ob 6 [.ref (qw 1), .ref (qw 2), .ref (qw 3), .ref (qw 4), .int (St_place w), .int (St_steps w)]), ((qw 1), aI K 8 (St_registers w)), ((qw 2), aI K 4 (St_floats w)), ((qw 3), aI K 8 (St_stuckMask w)), ((qw 4), aI K 8 (St_stuckOnes w))]) cx cf_X7 0 5 rfl (by decide) (Nat.le_of_ble_eq_true rfl) rfl pfd_I wd_321 dX7_standAs_51 rfl ?_
  have hi := inj1 hf
  exact r_vret (pc := 54) cx (by rw [← hi]; (try simp only [cl_St, St_registers_mk, St_floats_mk, St_stuckMask_mk, St_stuckOnes_mk, St_place_mk, St_steps_mk, List.cons_append, List.nil_append, List.append_nil]) <;> rfl) dX7_standAs_54
theorem yv_X7_standAs : YV yX7_standAs cX7_standAs 3 (none) 1 := ⟨⟨by decide +kernel, by decide +kernel, by decide +kernel⟩, wd_903, wd_96, wd_901, wd_902⟩
abbrev rm_St_copyFrom : Room := { frames := 2, cells := 0, slots := 0, locals := 45 }
set_option maxRecDepth 100000 in
set_option maxHeartbeats 4000000 in
theorem m_St_copyFrom (l : Launch) (D : va_G) (K : Nat → ClassId) (q : Nat → Nat) (v : T_St) (qw : Nat → Nat) (w : T_St) {o_v : T_St} (hf : f_St_copyFrom v w = some o_v) : MV l yX7_copyFrom cX7_copyFrom 2 (none) rm_St_copyFrom D K [.ref (q 0), .ref (qw 0)] (cl_St K q v ++ (cl_St K qw w)) (cl_St K q o_v ++ (cl_St K qw w)) := by
  refine MV_of (loc0 := [(0, .ref (q 0)), (1, .ref (qw 0))]) (by decide +kernel) rfl (Nat.le_of_ble_eq_true rfl) ?_
  intro p e s m args below meth c A cx
  unfold f_St_copyFrom at hf
  refine r_ws (ws' := [((q 0), ob 6 [.ref (q 1), .ref (q 2), .ref (q 3), .ref (q 4), .int (St_place v), .int (St_steps v)]), ((q 1), aI K 8 (St_registers v)), ((q 2), aI K 4 (St_floats v)), ((q 3), aI K 8 (St_stuckMask v)), ((q 4), aI K 8 (St_stuckOnes v)), ((qw 0), ob 6 [.ref (qw 1), .ref (qw 2), .ref (qw 3), .ref (qw 4), .int (St_place w), .int (St_steps w)]), ((qw 1), aI K 8 (St_registers w)), ((qw 2), aI K 4 (St_floats w)), ((qw 3), aI K 8 (St_stuckMask w)), ((qw 4), aI K 8 (St_stuckOnes w))]) rfl ?_
  refine r_aload_n (pc := 0) cx dX7_copyFrom_0 1 rfl ?_
  refine r_get (pc := 1) cx cf_X7 5 2 rfl (by decide) rfl wd_315 dX7_copyFrom_1 ?_
  refine r_iconst (pc := 4) cx dX7_copyFrom_4 ic_0 ?_
  refine r_aload_n (pc := 5) cx dX7_copyFrom_5 0 rfl ?_
  refine r_get (pc := 6) cx cf_X7 0 2 rfl (by decide) rfl wd_315 dX7_copyFrom_6 ?_
  refine r_iconst (pc := 9) cx dX7_copyFrom_9 ic_0 ?_
  refine r_bipush (pc := 10) cx dX7_copyFrom_10 bp_8 ?_
  replace hf := nm_of hf
  obtain ⟨f1, ef1, hf⟩ := hf
  refine r_copyI (pc := 12) (ws' := [((q 0), ob 6 [.ref (q 1), .ref (q 2), .ref (q 3), .ref (q 4), .int (St_place v), .int (St_steps v)]), ((q 1), aI K 8 (St_registers v)), ((q 2), aI K 4 (St_floats v)), ((q 3), aI K 8 f1), ((q 4), aI K 8 (St_stuckOnes v)), ((qw 0), ob 6 [.ref (qw 1), .ref (qw 2), .ref (qw 3), .ref (qw 4), .int (St_place w), .int (St_steps w)]), ((qw 1), aI K 8 (St_registers w)), ((qw 2), aI K 4 (St_floats w)), ((qw 3), aI K 8 (St_stuckMask w)), ((qw 4), aI K 8 (St_stuckOnes w))]) cx 8 3 rfl rfl (by decide) (nn := 8) (by decide) (by decide) (by decide) ef1 wd_1049 wd_488 wd_487 wd_100 (by decide) (by decide) dX7_copyFrom_12 rfl ?_
  refine r_aload_n (pc := 15) cx dX7_copyFrom_15 1 rfl ?_
  refine r_get (pc := 16) cx cf_X7 5 3 rfl (by decide) rfl wd_316 dX7_copyFrom_16 ?_
  refine r_iconst (pc := 19) cx dX7_copyFrom_19 ic_0 ?_
  refine r_aload_n (pc := 20) cx dX7_copyFrom_20 0 rfl ?_
  refine r_get (pc := 21) cx cf_X7 0 3 rfl (by decide) rfl wd_316 dX7_copyFrom_21 ?_
  refine r_iconst (pc := 24) cx dX7_copyFrom_24 ic_0 ?_
  refine r_bipush (pc := 25) cx dX7_copyFrom_25 bp_8 ?_
  replace hf := nm_of hf
  obtain ⟨f2, ef2, hf⟩ := hf
  refine r_copyI (pc := 27) (ws' := [((q 0), ob 6 [.ref (q 1), .ref (q 2), .ref (q 3), .ref (q 4), .int (St_place v), .int (St_steps v)]), ((q 1), aI K 8 (St_registers v)), ((q 2), aI K 4 (St_floats v)), ((q 3), aI K 8 f1), ((q 4), aI K 8 f2), ((qw 0), ob 6 [.ref (qw 1), .ref (qw 2), .ref (qw 3), .ref (qw 4), .int (St_place w), .int (St_steps w)]), ((qw 1), aI K 8 (St_registers w)), ((qw 2), aI K 4 (St_floats w)), ((qw 3), aI K 8 (St_stuckMask w)), ((qw 4), aI K 8 (St_stuckOnes w))]) cx 9 4 rfl rfl (by decide) (nn := 8) (by decide) (by decide) (by decide) ef2 wd_1049 wd_488 wd_487 wd_100 (by decide) (by decide) dX7_copyFrom_27 rfl ?_
  refine r_aload_n (pc := 30) cx dX7_copyFrom_30 0 rfl ?_
  refine r_aload_n (pc := 31) cx dX7_copyFrom_31 1 rfl ?_
  replace hf := bd_of hf
  obtain ⟨v3, hc4, hf⟩ := hf
  refine r_Vv (pc := 32) (ws' := [((q 0), ob 6 [.ref (q 1), .ref (q 2), .ref (q 3), .ref (q 4), .int (St_place v3), .int (St_steps v3)]), ((q 1), aI K 8 (St_registers v3)), ((q 2), aI K 4 (St_floats v3)), ((q 3), aI K 8 (St_stuckMask v3)), ((q 4), aI K 8 (St_stuckOnes v3)), ((qw 0), ob 6 [.ref (qw 1), .ref (qw 2), .ref (qw 3), .ref (qw 4), .int (St_place w), .int (St_steps w)]), ((qw 1), aI K 8 (St_registers w)), ((qw 2), aI K 4 (St_floats w)), ((qw 3), aI K 8 (St_stuckMask w)), ((qw 4), aI K 8 (St_stuckOnes w))]) (wc := [((q 0), ob 6 [.ref (q 1), .ref (q 2), .ref (q 3), .ref (q 4), .int (St_place v), .int (St_steps v)]), ((q 1), aI K 8 (St_registers v)), ((q 2), aI K 4 (St_floats v)), ((q 3), aI K 8 f1), ((q 4), aI K 8 f2), ((qw 0), ob 6 [.ref (qw 1), .ref (qw 2), .ref (qw 3), .ref (qw 4), .int (St_place w), .int (St_steps w)]), ((qw 1), aI K 8 (St_registers w)), ((qw 2), aI K 4 (St_floats w)), ((qw 3), aI K 8 (St_stuckMask w)), ((qw 4), aI K 8 (St_stuckOnes w))]) (nn := 10) cx [.ref (qw 0)] [] (m_St_standAs l D K q ((St_registers v), (St_floats v), f1, f2, (St_place v), (St_steps v)) qw w hc4) (by (try simp only [cl_St, St_registers_mk, St_floats_mk, St_stuckMask_mk, St_stuckOnes_mk, St_place_mk, St_steps_mk, List.cons_append, List.nil_append, List.append_nil]) <;> rfl) yv_X7_standAs wd_1050 ⟨rfl, rfl⟩ (by decide) (fr_s (j := 0) rfl rfl rfl (fr_s (j := 1) rfl rfl rfl (fr_s (j := 2) rfl rfl rfl (fr_s (j := 3) rfl rfl rfl (fr_s (j := 4) rfl rfl rfl (fr_s (j := 5) rfl rfl rfl (fr_s (j := 6) rfl rfl rfl (fr_s (j := 7) rfl rfl rfl (fr_s (j := 8) rfl rfl rfl (fr_s (j := 9) rfl rfl rfl (fr_n))))))))))) rfl (by decide) 0 rfl rfl rfl (Nat.le_of_ble_eq_true rfl) dX7_copyFrom_32 ?_
  refine r_aload_n (pc := 35) cx dX7_copyFrom_35 0 rfl ?_
  refine r_aload_n (pc := 36) cx dX7_copyFrom_36 1 rfl ?_
  refine r_get (pc := 37) cx cf_X7 5 5 rfl (by decide) rfl wd_321 dX7_copyFrom_37 ?_
  replace hf := nm_of hf
  obtain ⟨x5, ex5, hf⟩ := hf
  refine r_nm ex5 ?_
  refine r_putI (pc := 40) (ws' := [((q 0), ob 6 [.ref (q 1), .ref (q 2), .ref (q 3), .ref (q 4), .int (St_place v3), .int x5]), ((q 1), aI K 8 (St_registers v3)), ((q 2), aI K 4 (St_floats v3)), ((q 3), aI K 8 (St_stuckMask v3)), ((q 4), aI K 8 (St_stuckOnes v3)), ((qw 0), ob 6 [.ref (qw 1), .ref (qw 2), .ref (qw 3), .ref (qw 4), .int (St_place w), .int (St_steps w)]), ((qw 1), aI K 8 (St_registers w)), ((qw 2), aI K 4 (St_floats w)), ((qw 3), aI K 8 (St_stuckMask w)), ((qw 4), aI K 8 (St_stuckOnes w))]) cx cf_X7 0 5 rfl (by decide) (Nat.le_of_ble_eq_true rfl) rfl pfd_I wd_321 dX7_copyFrom_40 rfl ?_
  have hi := inj1 hf
  exact r_vret (pc := 43) cx (by rw [← hi]; (try simp only [cl_St, St_registers_mk, St_floats_mk, St_stuckMask_mk, St_stuckOnes_mk, St_place_mk, St_steps_mk, List.cons_append, List.nil_append, List.append_nil]) <;> rfl) dX7_copyFrom_43
theorem yv_X7_copyFrom : YV yX7_copyFrom cX7_copyFrom 2 (none) 1 := ⟨⟨by decide +kernel, by decide +kernel, by decide +kernel⟩, wd_1048, wd_96, wd_1046, wd_1047⟩
abbrev rm_St_stickBit : Room := { frames := 1, cells := 0, slots := 0, locals := 23 }
set_option maxRecDepth 100000 in
set_option maxHeartbeats 4000000 in
theorem m_St_stickBit (l : Launch) (D : va_G) (K : Nat → ClassId) (q : Nat → Nat) (v : T_St) (a1 : Int32) (a2 : Int32) (a3 : Int32) {o_v : T_St} (hf : f_St_stickBit v a1 a2 a3 = some o_v) : MV l yX7_stickBit cX7_stickBit 6 (none) rm_St_stickBit D K [.ref (q 0), .int a1, .int a2, .int a3] (cl_St K q v) (cl_St K q o_v) := by
  refine MV_of (loc0 := [(0, .ref (q 0)), (1, .int a1), (2, .int a2), (3, .int a3)]) (by decide +kernel) rfl (Nat.le_of_ble_eq_true rfl) ?_
  intro p e s m args below meth c A cx
  unfold f_St_stickBit at hf
  refine r_ws (ws' := [((q 0), ob 6 [.ref (q 1), .ref (q 2), .ref (q 3), .ref (q 4), .int (St_place v), .int (St_steps v)]), ((q 1), aI K 8 (St_registers v)), ((q 2), aI K 4 (St_floats v)), ((q 3), aI K 8 (St_stuckMask v)), ((q 4), aI K 8 (St_stuckOnes v))]) rfl ?_
  refine r_iload_n (pc := 0) cx dX7_stickBit_0 1 rfl ?_
  refine r_bipush (pc := 1) cx dX7_stickBit_1 bp_7 ?_
  refine r_iand (pc := 3) cx dX7_stickBit_3 ?_
  replace hf := nm_of hf
  obtain ⟨x1, ex1, hf⟩ := hf
  refine r_nm ex1 ?_
  refine r_istore (pc := 4) (loc' := [(4, .int x1), (0, .ref (q 0)), (1, .int a1), (2, .int a2), (3, .int a3)]) cx dX7_stickBit_4 (by decide) rfl ?_
  refine r_iconst (pc := 6) cx dX7_stickBit_6 ic_1 ?_
  refine r_iload_n (pc := 7) cx dX7_stickBit_7 3 rfl ?_
  refine r_ishl (pc := 8) cx dX7_stickBit_8 ?_
  replace hf := nm_of hf
  obtain ⟨x2, ex2, hf⟩ := hf
  refine r_nm ex2 ?_
  refine r_istore (pc := 9) (loc' := [(5, .int x2), (4, .int x1), (0, .ref (q 0)), (1, .int a1), (2, .int a2), (3, .int a3)]) cx dX7_stickBit_9 (by decide) rfl ?_
  refine r_aload_n (pc := 11) cx dX7_stickBit_11 2 rfl ?_
  refine r_get (pc := 12) cx cf_X7 0 2 rfl (by decide) rfl wd_315 dX7_stickBit_12 ?_
  refine r_iload (pc := 15) cx dX7_stickBit_15 1 rfl ?_
  refine r_dup2 (pc := 17) cx dX7_stickBit_17 rfl rfl ?_
  refine r_iald (pc := 18) cx 3 rfl (by rw [ex1]; exact ix_and7 _) dX7_stickBit_18 ?_
  refine r_iload (pc := 19) cx dX7_stickBit_19 0 rfl ?_
  refine r_ior (pc := 21) cx dX7_stickBit_21 ?_
  replace hf := nm_of hf
  obtain ⟨x3, ex3, hf⟩ := hf
  refine r_nm ex3 ?_
  replace hf := nm_of hf
  obtain ⟨f4, ef4, hf⟩ := hf
  refine r_iast (pc := 22) (ws' := [((q 0), ob 6 [.ref (q 1), .ref (q 2), .ref (q 3), .ref (q 4), .int (St_place v), .int (St_steps v)]), ((q 1), aI K 8 (St_registers v)), ((q 2), aI K 4 (St_floats v)), ((q 3), aI K 8 f4), ((q 4), aI K 8 (St_stuckOnes v))]) cx 3 rfl (by rw [ex1]; exact ix_and7 _) dX7_stickBit_22 ef4 rfl ?_
  refine r_aload_n (pc := 23) cx dX7_stickBit_23 2 rfl ?_
  refine r_get (pc := 24) cx cf_X7 0 3 rfl (by decide) rfl wd_316 dX7_stickBit_24 ?_
  refine r_iload (pc := 27) cx dX7_stickBit_27 1 rfl ?_
  refine r_iload_n (pc := 29) cx dX7_stickBit_29 5 rfl ?_
  replace hf := nm_of hf
  obtain ⟨J6, eJ6, hf⟩ := hf
  have hJ6 : ∀ (y5 : Int32), J6 y5 = some o_v → WW p l e rm_St_stickBit s m args below meth c D A 6 0 0 (MQ below (QV D K A (cl_St K q o_v)) args s 0 0 A) ([((q 0), ob 6 [.ref (q 1), .ref (q 2), .ref (q 3), .ref (q 4), .int (St_place v), .int (St_steps v)]), ((q 1), aI K 8 (St_registers v)), ((q 2), aI K 4 (St_floats v)), ((q 3), aI K 8 f4), ((q 4), aI K 8 (St_stuckOnes v))]) ([(0, .ref (q 0)), (4, .int x1)]) ([.int y5, .int x1, .ref (q 4)]) 58 := by
    clear hf
    intro y5 hf
    rw [eJ6] at hf
    replace hf := nm_of hf
    obtain ⟨f7, ef7, hf⟩ := hf
    refine r_iast (pc := 58) (ws' := [((q 0), ob 6 [.ref (q 1), .ref (q 2), .ref (q 3), .ref (q 4), .int (St_place v), .int (St_steps v)]), ((q 1), aI K 8 (St_registers v)), ((q 2), aI K 4 (St_floats v)), ((q 3), aI K 8 f4), ((q 4), aI K 8 f7)]) cx 4 rfl (by rw [ex1]; exact ix_and7 _) dX7_stickBit_58 ef7 rfl ?_
    refine r_aload_n (pc := 59) cx dX7_stickBit_59 0 rfl ?_
    refine r_iload (pc := 60) cx dX7_stickBit_60 1 rfl ?_
    refine r_aload_n (pc := 62) cx dX7_stickBit_62 0 rfl ?_
    refine r_get (pc := 63) cx cf_X7 0 0 rfl (by decide) rfl wd_311 dX7_stickBit_63 ?_
    refine r_iload (pc := 66) cx dX7_stickBit_66 1 rfl ?_
    refine r_iald (pc := 68) cx 1 rfl (by rw [ex1]; exact ix_and7 _) dX7_stickBit_68 ?_
    replace hf := bd_of hf
    obtain ⟨v8, hc9, hf⟩ := hf
    refine r_Vv (pc := 69) (ws' := [((q 0), ob 6 [.ref (q 1), .ref (q 2), .ref (q 3), .ref (q 4), .int (St_place v8), .int (St_steps v8)]), ((q 1), aI K 8 (St_registers v8)), ((q 2), aI K 4 (St_floats v8)), ((q 3), aI K 8 (St_stuckMask v8)), ((q 4), aI K 8 (St_stuckOnes v8))]) (wc := [((q 0), ob 6 [.ref (q 1), .ref (q 2), .ref (q 3), .ref (q 4), .int (St_place v), .int (St_steps v)]), ((q 1), aI K 8 (St_registers v)), ((q 2), aI K 4 (St_floats v)), ((q 3), aI K 8 f4), ((q 4), aI K 8 f7)]) (nn := 5) cx [.int x1, .int ((St_registers v) x1.toNatClampNeg)] [] (m_St_lay l D K q ((St_registers v), (St_floats v), f4, f7, (St_place v), (St_steps v)) x1 ((St_registers v) x1.toNatClampNeg) hc9) (by (try simp only [cl_St, St_registers_mk, St_floats_mk, St_stuckMask_mk, St_stuckOnes_mk, St_place_mk, St_steps_mk, List.cons_append, List.nil_append, List.append_nil]) <;> rfl) yv_X7_lay wd_797 ⟨rfl, rfl⟩ (by decide) (fr_s (j := 0) rfl rfl rfl (fr_s (j := 1) rfl rfl rfl (fr_s (j := 2) rfl rfl rfl (fr_s (j := 3) rfl rfl rfl (fr_s (j := 4) rfl rfl rfl (fr_n)))))) rfl (by decide) 0 rfl rfl rfl (Nat.le_of_ble_eq_true rfl) dX7_stickBit_69 ?_
    have hi := inj1 hf
    exact r_vret (pc := 72) cx (by rw [← hi]; rfl) dX7_stickBit_72
  refine r_if_eq (pc := 30) (tgt := 46) cx dX7_stickBit_30 (by decide) (fun h10 => ?_) (fun h10 => ?_)
  · replace hf := ifp h10 hf
    refine r_aload_n (pc := 46) cx dX7_stickBit_46 2 rfl ?_
    refine r_get (pc := 47) cx cf_X7 0 3 rfl (by decide) rfl wd_316 dX7_stickBit_47 ?_
    refine r_iload (pc := 50) cx dX7_stickBit_50 1 rfl ?_
    refine r_iald (pc := 52) cx 4 rfl (by rw [ex1]; exact ix_and7 _) dX7_stickBit_52 ?_
    refine r_iload (pc := 53) cx dX7_stickBit_53 0 rfl ?_
    refine r_iconst (pc := 55) cx dX7_stickBit_55 ic_m1 ?_
    refine r_ixor (pc := 56) cx dX7_stickBit_56 ?_
    refine r_iand (pc := 57) cx dX7_stickBit_57 ?_
    refine r_loc (loc' := [(0, .ref (q 0)), (4, .int x1)]) [2, 1] rfl ?_
    exact hJ6 _ hf
  · replace hf := ifn h10 hf
    refine r_aload_n (pc := 33) cx dX7_stickBit_33 2 rfl ?_
    refine r_get (pc := 34) cx cf_X7 0 3 rfl (by decide) rfl wd_316 dX7_stickBit_34 ?_
    refine r_iload (pc := 37) cx dX7_stickBit_37 1 rfl ?_
    refine r_iald (pc := 39) cx 4 rfl (by rw [ex1]; exact ix_and7 _) dX7_stickBit_39 ?_
    refine r_iload (pc := 40) cx dX7_stickBit_40 0 rfl ?_
    refine r_ior (pc := 42) cx dX7_stickBit_42 ?_
    refine r_goto (pc := 43) (tgt := 58) cx dX7_stickBit_43 (by decide) ?_
    refine r_loc (loc' := [(0, .ref (q 0)), (4, .int x1)]) [2, 1] rfl ?_
    exact hJ6 _ hf
theorem yv_X7_stickBit : YV yX7_stickBit cX7_stickBit 6 (none) 3 := ⟨⟨by decide +kernel, by decide +kernel, by decide +kernel⟩, wd_1105, wd_96, wd_1103, wd_1104⟩
abbrev rm_St_stuckBits : Room := { frames := 1, cells := 0, slots := 0, locals := 20 }
set_option maxRecDepth 100000 in
set_option maxHeartbeats 4000000 in
theorem m_St_stuckBits (l : Launch) (D : va_G) (K : Nat → ClassId) (q : Nat → Nat) (v : T_St) {r_ : Int32} (hf : f_St_stuckBits v = some r_) : MI l yX7_stuckBits cX7_stuckBits 3 (some .int) rm_St_stuckBits D K [.ref (q 0)] (cl_St K q v) r_ (cl_St K q v) := by
  refine MI_of (loc0 := [(0, .ref (q 0))]) (by decide +kernel) rfl (Nat.le_of_ble_eq_true rfl) ?_
  intro p e s m args below meth c A cx
  unfold f_St_stuckBits at hf
  refine r_ws (ws' := [((q 0), ob 6 [.ref (q 1), .ref (q 2), .ref (q 3), .ref (q 4), .int (St_place v), .int (St_steps v)]), ((q 1), aI K 8 (St_registers v)), ((q 2), aI K 4 (St_floats v)), ((q 3), aI K 8 (St_stuckMask v)), ((q 4), aI K 8 (St_stuckOnes v))]) rfl ?_
  refine r_iconst (pc := 0) cx dX7_stuckBits_0 ic_0 ?_
  refine r_istore_n (pc := 1) (loc' := [(1, .int (0 : Int32)), (0, .ref (q 0))]) cx dX7_stuckBits_1 rfl (by decide) rfl ?_
  refine r_iconst (pc := 2) cx dX7_stuckBits_2 ic_0 ?_
  refine r_istore_n (pc := 3) (loc' := [(2, .int (0 : Int32)), (1, .int (0 : Int32)), (0, .ref (q 0))]) cx dX7_stuckBits_3 rfl (by decide) rfl ?_
  have hL4 : ∀ (k4_28 : Int32 → Option (Int32)), (∀ (x3 : Int32), k4_28 x3 = some r_ → WW p l e rm_St_stuckBits s m args below meth c D A 3 0 0 (MQ below (QI D K A r_ (cl_St K q v)) args s 0 0 A) ([((q 0), ob 6 [.ref (q 1), .ref (q 2), .ref (q 3), .ref (q 4), .int (St_place v), .int (St_steps v)]), ((q 1), aI K 8 (St_registers v)), ((q 2), aI K 4 (St_floats v)), ((q 3), aI K 8 (St_stuckMask v)), ((q 4), aI K 8 (St_stuckOnes v))]) ([(1, .int x3)]) ([]) 28) → ∀ (n4 : Nat) (x1 : Int32) (x2 : Int32), f_St_stuckBits_L4 v k4_28 n4 x1 x2 = some r_ → WW p l e rm_St_stuckBits s m args below meth c D A 3 0 0 (MQ below (QI D K A r_ (cl_St K q v)) args s 0 0 A) ([((q 0), ob 6 [.ref (q 1), .ref (q 2), .ref (q 3), .ref (q 4), .int (St_place v), .int (St_steps v)]), ((q 1), aI K 8 (St_registers v)), ((q 2), aI K 4 (St_floats v)), ((q 3), aI K 8 (St_stuckMask v)), ((q 4), aI K 8 (St_stuckOnes v))]) ([(0, .ref (q 0)), (1, .int x1), (2, .int x2)]) ([]) 4 := by
    clear hf
    intro k4_28 hk4_28 n4
    induction n4 with
    | zero => intro x1 x2 hf; exact (nomatch (show (none : Option (Int32)) = some _ from hf))
    | succ n4 ih4 =>
      intro x1 x2 hf
      rw [f_St_stuckBits_L4] at hf
      refine r_iload_n (pc := 4) cx dX7_stuckBits_4 2 rfl ?_
      refine r_bipush (pc := 5) cx dX7_stuckBits_5 bp_8 ?_
      refine r_icmp_ge (pc := 7) (tgt := 28) cx dX7_stuckBits_7 (by decide) (fun h4 => ?_) (fun h4 => ?_)
      · replace hf := ifp h4 hf
        refine r_loc (loc' := [(1, .int x1)]) [1] rfl ?_
        exact hk4_28 _ hf
      · replace hf := ifn h4 hf
        refine r_iload_n (pc := 10) cx dX7_stuckBits_10 1 rfl ?_
        refine r_aload_n (pc := 11) cx dX7_stuckBits_11 0 rfl ?_
        refine r_get (pc := 12) cx cf_X7 0 2 rfl (by decide) rfl wd_315 dX7_stuckBits_12 ?_
        refine r_iload_n (pc := 15) cx dX7_stuckBits_15 2 rfl ?_
        replace hf := chk_of hf
        obtain ⟨h5, hf⟩ := hf
        refine r_iald (pc := 16) cx 3 rfl h5 dX7_stuckBits_16 ?_
        replace hf := bd_of hf
        obtain ⟨r6, hc7, hf⟩ := hf
        refine r_Si (pc := 17) (ws' := [((q 0), ob 6 [.ref (q 1), .ref (q 2), .ref (q 3), .ref (q 4), .int (St_place v), .int (St_steps v)]), ((q 1), aI K 8 (St_registers v)), ((q 2), aI K 4 (St_floats v)), ((q 3), aI K 8 (St_stuckMask v)), ((q 4), aI K 8 (St_stuckOnes v))]) (wc := []) (nn := 0) cx [.int ((St_stuckMask v) x2.toNatClampNeg)] [.int x1] (m_J_bitCount_0f7a4 l D K ((St_stuckMask v) x2.toNatClampNeg) hc7) rfl ys_J6_bitCount_0f7a4 wd_1118 ⟨rfl, rfl⟩ (by decide) (fr_k (fr_k (fr_k (fr_k (fr_k (fr_n)))))) rfl (by decide) rfl (Nat.le_of_ble_eq_true rfl) dX7_stuckBits_17 ?_
        refine r_iadd (pc := 20) cx dX7_stuckBits_20 ?_
        replace hf := nm_of hf
        obtain ⟨x8, ex8, hf⟩ := hf
        refine r_nm ex8 ?_
        refine r_istore_n (pc := 21) (loc' := [(1, .int x8), (0, .ref (q 0)), (2, .int x2)]) cx dX7_stuckBits_21 rfl (by decide) rfl ?_
        replace hf := nm_of hf
        obtain ⟨x9, ex9, hf⟩ := hf
        refine r_iinc (pc := 22) (loc' := [(2, .int x9), (1, .int x8), (0, .ref (q 0))]) (v := x9) cx dX7_stuckBits_22 2 rfl ((congrArg (fun z => x2 + z) ic_1).trans ex9.symm) (by decide) rfl ?_
        refine r_goto (pc := 25) (tgt := 4) cx dX7_stuckBits_25 (by decide) ?_
        refine r_loc (loc' := [(0, .ref (q 0)), (1, .int x8), (2, .int x9)]) [2, 1, 0] rfl ?_
        exact ih4 _ _ hf
  refine r_loc (loc' := [(0, .ref (q 0)), (1, .int (0 : Int32)), (2, .int (0 : Int32))]) [2, 1, 0] rfl ?_
  refine hL4 _ (fun x3 hf => ?_) _ _ _ hf
  refine r_iload_n (pc := 28) cx dX7_stuckBits_28 0 rfl ?_
  have hi := inj1 hf
  exact r_iret (pc := 29) cx hi rfl dX7_stuckBits_29
theorem yv_X7_stuckBits : YV yX7_stuckBits cX7_stuckBits 3 (some .int) 0 := ⟨⟨by decide +kernel, by decide +kernel, by decide +kernel⟩, wd_1117, wd_96, wd_1115, wd_1116⟩
abbrev rm_St_flipRegister : Room := { frames := 1, cells := 0, slots := 0, locals := 23 }
set_option maxRecDepth 100000 in
set_option maxHeartbeats 4000000 in
theorem m_St_flipRegister (l : Launch) (D : va_G) (K : Nat → ClassId) (q : Nat → Nat) (v : T_St) (a1 : Int32) (a2 : Int32) {r_ : Int32} {o_v : T_St} (hf : f_St_flipRegister v a1 a2 = some (r_, o_v)) : MI l yX7_flipRegister cX7_flipRegister 3 (some .boolean) rm_St_flipRegister D K [.ref (q 0), .int a1, .int a2] (cl_St K q v) r_ (cl_St K q o_v) := by
  refine MI_of (loc0 := [(0, .ref (q 0)), (1, .int a1), (2, .int a2)]) (by decide +kernel) rfl (Nat.le_of_ble_eq_true rfl) ?_
  intro p e s m args below meth c A cx
  unfold f_St_flipRegister at hf
  refine r_ws (ws' := [((q 0), ob 6 [.ref (q 1), .ref (q 2), .ref (q 3), .ref (q 4), .int (St_place v), .int (St_steps v)]), ((q 1), aI K 8 (St_registers v)), ((q 2), aI K 4 (St_floats v)), ((q 3), aI K 8 (St_stuckMask v)), ((q 4), aI K 8 (St_stuckOnes v))]) rfl ?_
  refine r_iload_n (pc := 0) cx dX7_flipRegister_0 1 rfl ?_
  refine r_if_lt (pc := 1) (tgt := 20) cx dX7_flipRegister_1 (by decide) (fun h1 => ?_) (fun h1 => ?_)
  · replace hf := ifp h1 hf
    refine r_iconst (pc := 20) cx dX7_flipRegister_20 ic_0 ?_
    have hi := inj2 hf
    exact r_zret (pc := 21) cx (Or.inl rfl) hi.1 (by rw [← hi.2]; rfl) dX7_flipRegister_21
  · replace hf := ifn h1 hf
    refine r_iload_n (pc := 4) cx dX7_flipRegister_4 1 rfl ?_
    refine r_bipush (pc := 5) cx dX7_flipRegister_5 bp_7 ?_
    refine r_icmp_gt (pc := 7) (tgt := 20) cx dX7_flipRegister_7 (by decide) (fun h2 => ?_) (fun h2 => ?_)
    · replace hf := ifp h2 hf
      refine r_iconst (pc := 20) cx dX7_flipRegister_20 ic_0 ?_
      have hi := inj2 hf
      exact r_zret (pc := 21) cx (Or.inl rfl) hi.1 (by rw [← hi.2]; rfl) dX7_flipRegister_21
    · replace hf := ifn h2 hf
      refine r_iload_n (pc := 10) cx dX7_flipRegister_10 2 rfl ?_
      refine r_if_lt (pc := 11) (tgt := 20) cx dX7_flipRegister_11 (by decide) (fun h3 => ?_) (fun h3 => ?_)
      · replace hf := ifp h3 hf
        refine r_iconst (pc := 20) cx dX7_flipRegister_20 ic_0 ?_
        have hi := inj2 hf
        exact r_zret (pc := 21) cx (Or.inl rfl) hi.1 (by rw [← hi.2]; rfl) dX7_flipRegister_21
      · replace hf := ifn h3 hf
        refine r_iload_n (pc := 14) cx dX7_flipRegister_14 2 rfl ?_
        refine r_bipush (pc := 15) cx dX7_flipRegister_15 bp_31 ?_
        refine r_icmp_le (pc := 17) (tgt := 22) cx dX7_flipRegister_17 (by decide) (fun h4 => ?_) (fun h4 => ?_)
        · replace hf := ifp h4 hf
          refine r_aload_n (pc := 22) cx dX7_flipRegister_22 0 rfl ?_
          refine r_iload_n (pc := 23) cx dX7_flipRegister_23 1 rfl ?_
          refine r_aload_n (pc := 24) cx dX7_flipRegister_24 0 rfl ?_
          refine r_get (pc := 25) cx cf_X7 0 0 rfl (by decide) rfl wd_311 dX7_flipRegister_25 ?_
          refine r_iload_n (pc := 28) cx dX7_flipRegister_28 1 rfl ?_
          replace hf := chk_of hf
          obtain ⟨h5, hf⟩ := hf
          refine r_iald (pc := 29) cx 1 rfl h5 dX7_flipRegister_29 ?_
          refine r_iconst (pc := 30) cx dX7_flipRegister_30 ic_1 ?_
          refine r_iload_n (pc := 31) cx dX7_flipRegister_31 2 rfl ?_
          refine r_ishl (pc := 32) cx dX7_flipRegister_32 ?_
          refine r_ixor (pc := 33) cx dX7_flipRegister_33 ?_
          replace hf := bd_of hf
          obtain ⟨v6, hc7, hf⟩ := hf
          refine r_Vv (pc := 34) (ws' := [((q 0), ob 6 [.ref (q 1), .ref (q 2), .ref (q 3), .ref (q 4), .int (St_place v6), .int (St_steps v6)]), ((q 1), aI K 8 (St_registers v6)), ((q 2), aI K 4 (St_floats v6)), ((q 3), aI K 8 (St_stuckMask v6)), ((q 4), aI K 8 (St_stuckOnes v6))]) (wc := [((q 0), ob 6 [.ref (q 1), .ref (q 2), .ref (q 3), .ref (q 4), .int (St_place v), .int (St_steps v)]), ((q 1), aI K 8 (St_registers v)), ((q 2), aI K 4 (St_floats v)), ((q 3), aI K 8 (St_stuckMask v)), ((q 4), aI K 8 (St_stuckOnes v))]) (nn := 5) cx [.int a1, .int (((St_registers v) a1.toNatClampNeg) ^^^ ((1 : Int32) <<< (a2 &&& 31)))] [] (m_St_lay l D K q v a1 (((St_registers v) a1.toNatClampNeg) ^^^ ((1 : Int32) <<< (a2 &&& 31))) hc7) rfl yv_X7_lay wd_797 ⟨rfl, rfl⟩ (by decide) (fr_s (j := 0) rfl rfl rfl (fr_s (j := 1) rfl rfl rfl (fr_s (j := 2) rfl rfl rfl (fr_s (j := 3) rfl rfl rfl (fr_s (j := 4) rfl rfl rfl (fr_n)))))) rfl (by decide) 0 rfl rfl rfl (Nat.le_of_ble_eq_true rfl) dX7_flipRegister_34 ?_
          refine r_iconst (pc := 37) cx dX7_flipRegister_37 ic_1 ?_
          have hi := inj2 hf
          exact r_zret (pc := 38) cx (Or.inr rfl) hi.1 (by rw [← hi.2]; rfl) dX7_flipRegister_38
        · replace hf := ifn h4 hf
          refine r_iconst (pc := 20) cx dX7_flipRegister_20 ic_0 ?_
          have hi := inj2 hf
          exact r_zret (pc := 21) cx (Or.inl rfl) hi.1 (by rw [← hi.2]; rfl) dX7_flipRegister_21
theorem yv_X7_flipRegister : YV yX7_flipRegister cX7_flipRegister 3 (some .boolean) 2 := ⟨⟨by decide +kernel, by decide +kernel, by decide +kernel⟩, wd_932, wd_96, wd_930, wd_931⟩
abbrev rm_St_flipFloat : Room := { frames := 0, cells := 0, slots := 0, locals := 0 }
set_option maxRecDepth 100000 in
set_option maxHeartbeats 4000000 in
theorem m_St_flipFloat (l : Launch) (D : va_G) (K : Nat → ClassId) (q : Nat → Nat) (v : T_St) (a1 : Int32) (a2 : Int32) {r_ : Int32} {o_v : T_St} (hf : f_St_flipFloat v a1 a2 = some (r_, o_v)) : MI l yX7_flipFloat cX7_flipFloat 3 (some .boolean) rm_St_flipFloat D K [.ref (q 0), .int a1, .int a2] (cl_St K q v) r_ (cl_St K q o_v) := by
  refine MI_of (loc0 := [(0, .ref (q 0)), (1, .int a1), (2, .int a2)]) (by decide +kernel) rfl (Nat.le_of_ble_eq_true rfl) ?_
  intro p e s m args below meth c A cx
  unfold f_St_flipFloat at hf
  refine r_ws (ws' := [((q 0), ob 6 [.ref (q 1), .ref (q 2), .ref (q 3), .ref (q 4), .int (St_place v), .int (St_steps v)]), ((q 1), aI K 8 (St_registers v)), ((q 2), aI K 4 (St_floats v)), ((q 3), aI K 8 (St_stuckMask v)), ((q 4), aI K 8 (St_stuckOnes v))]) rfl ?_
  refine r_iload_n (pc := 0) cx dX7_flipFloat_0 1 rfl ?_
  refine r_if_lt (pc := 1) (tgt := 19) cx dX7_flipFloat_1 (by decide) (fun h1 => ?_) (fun h1 => ?_)
  · replace hf := ifp h1 hf
    refine r_iconst (pc := 19) cx dX7_flipFloat_19 ic_0 ?_
    have hi := inj2 hf
    exact r_zret (pc := 20) cx (Or.inl rfl) hi.1 (by rw [← hi.2]; rfl) dX7_flipFloat_20
  · replace hf := ifn h1 hf
    refine r_iload_n (pc := 4) cx dX7_flipFloat_4 1 rfl ?_
    refine r_iconst (pc := 5) cx dX7_flipFloat_5 ic_3 ?_
    refine r_icmp_gt (pc := 6) (tgt := 19) cx dX7_flipFloat_6 (by decide) (fun h2 => ?_) (fun h2 => ?_)
    · replace hf := ifp h2 hf
      refine r_iconst (pc := 19) cx dX7_flipFloat_19 ic_0 ?_
      have hi := inj2 hf
      exact r_zret (pc := 20) cx (Or.inl rfl) hi.1 (by rw [← hi.2]; rfl) dX7_flipFloat_20
    · replace hf := ifn h2 hf
      refine r_iload_n (pc := 9) cx dX7_flipFloat_9 2 rfl ?_
      refine r_if_lt (pc := 10) (tgt := 19) cx dX7_flipFloat_10 (by decide) (fun h3 => ?_) (fun h3 => ?_)
      · replace hf := ifp h3 hf
        refine r_iconst (pc := 19) cx dX7_flipFloat_19 ic_0 ?_
        have hi := inj2 hf
        exact r_zret (pc := 20) cx (Or.inl rfl) hi.1 (by rw [← hi.2]; rfl) dX7_flipFloat_20
      · replace hf := ifn h3 hf
        refine r_iload_n (pc := 13) cx dX7_flipFloat_13 2 rfl ?_
        refine r_bipush (pc := 14) cx dX7_flipFloat_14 bp_31 ?_
        refine r_icmp_le (pc := 16) (tgt := 21) cx dX7_flipFloat_16 (by decide) (fun h4 => ?_) (fun h4 => ?_)
        · replace hf := ifp h4 hf
          refine r_aload_n (pc := 21) cx dX7_flipFloat_21 0 rfl ?_
          refine r_get (pc := 22) cx cf_X7 0 1 rfl (by decide) rfl wd_313 dX7_flipFloat_22 ?_
          refine r_iload_n (pc := 25) cx dX7_flipFloat_25 1 rfl ?_
          refine r_dup2 (pc := 26) cx dX7_flipFloat_26 rfl rfl ?_
          replace hf := chk_of hf
          obtain ⟨h5, hf⟩ := hf
          refine r_iald (pc := 27) cx 2 rfl h5 dX7_flipFloat_27 ?_
          refine r_iconst (pc := 28) cx dX7_flipFloat_28 ic_1 ?_
          refine r_iload_n (pc := 29) cx dX7_flipFloat_29 2 rfl ?_
          refine r_ishl (pc := 30) cx dX7_flipFloat_30 ?_
          refine r_ixor (pc := 31) cx dX7_flipFloat_31 ?_
          replace hf := nm_of hf
          obtain ⟨x6, ex6, hf⟩ := hf
          refine r_nm ex6 ?_
          replace hf := chk_of hf
          obtain ⟨h7, hf⟩ := hf
          replace hf := nm_of hf
          obtain ⟨f8, ef8, hf⟩ := hf
          refine r_iast (pc := 32) (ws' := [((q 0), ob 6 [.ref (q 1), .ref (q 2), .ref (q 3), .ref (q 4), .int (St_place v), .int (St_steps v)]), ((q 1), aI K 8 (St_registers v)), ((q 2), aI K 4 f8), ((q 3), aI K 8 (St_stuckMask v)), ((q 4), aI K 8 (St_stuckOnes v))]) cx 2 rfl h7 dX7_flipFloat_32 ef8 rfl ?_
          refine r_iconst (pc := 33) cx dX7_flipFloat_33 ic_1 ?_
          have hi := inj2 hf
          exact r_zret (pc := 34) cx (Or.inr rfl) hi.1 (by rw [← hi.2]; (try simp only [cl_St, St_registers_mk, St_floats_mk, St_stuckMask_mk, St_stuckOnes_mk, St_place_mk, St_steps_mk, List.cons_append, List.nil_append, List.append_nil]) <;> rfl) dX7_flipFloat_34
        · replace hf := ifn h4 hf
          refine r_iconst (pc := 19) cx dX7_flipFloat_19 ic_0 ?_
          have hi := inj2 hf
          exact r_zret (pc := 20) cx (Or.inl rfl) hi.1 (by rw [← hi.2]; rfl) dX7_flipFloat_20
theorem yv_X7_flipFloat : YV yX7_flipFloat cX7_flipFloat 3 (some .boolean) 2 := ⟨⟨by decide +kernel, by decide +kernel, by decide +kernel⟩, wd_936, wd_96, wd_934, wd_935⟩
abbrev rm_St_flipPlace : Room := { frames := 0, cells := 0, slots := 0, locals := 0 }
set_option maxRecDepth 100000 in
set_option maxHeartbeats 4000000 in
theorem m_St_flipPlace (l : Launch) (D : va_G) (K : Nat → ClassId) (q : Nat → Nat) (v : T_St) (a1 : Int32) (a2 : Int32) {r_ : Int32} {o_v : T_St} (hf : f_St_flipPlace v a1 a2 = some (r_, o_v)) : MI l yX7_flipPlace cX7_flipPlace 3 (some .boolean) rm_St_flipPlace D K [.ref (q 0), .int a1, .int a2] (cl_St K q v) r_ (cl_St K q o_v) := by
  refine MI_of (loc0 := [(0, .ref (q 0)), (1, .int a1), (2, .int a2)]) (by decide +kernel) rfl (Nat.le_of_ble_eq_true rfl) ?_
  intro p e s m args below meth c A cx
  unfold f_St_flipPlace at hf
  refine r_ws (ws' := [((q 0), ob 6 [.ref (q 1), .ref (q 2), .ref (q 3), .ref (q 4), .int (St_place v), .int (St_steps v)]), ((q 1), aI K 8 (St_registers v)), ((q 2), aI K 4 (St_floats v)), ((q 3), aI K 8 (St_stuckMask v)), ((q 4), aI K 8 (St_stuckOnes v))]) rfl ?_
  refine r_iload_n (pc := 0) cx dX7_flipPlace_0 1 rfl ?_
  refine r_if_ne (pc := 1) (tgt := 13) cx dX7_flipPlace_1 (by decide) (fun h1 => ?_) (fun h1 => ?_)
  · replace hf := ifn h1 hf
    refine r_iconst (pc := 13) cx dX7_flipPlace_13 ic_0 ?_
    have hi := inj2 hf
    exact r_zret (pc := 14) cx (Or.inl rfl) hi.1 (by rw [← hi.2]; rfl) dX7_flipPlace_14
  · replace hf := ifp h1 hf
    refine r_iload_n (pc := 4) cx dX7_flipPlace_4 2 rfl ?_
    refine r_if_lt (pc := 5) (tgt := 13) cx dX7_flipPlace_5 (by decide) (fun h2 => ?_) (fun h2 => ?_)
    · replace hf := ifp h2 hf
      refine r_iconst (pc := 13) cx dX7_flipPlace_13 ic_0 ?_
      have hi := inj2 hf
      exact r_zret (pc := 14) cx (Or.inl rfl) hi.1 (by rw [← hi.2]; rfl) dX7_flipPlace_14
    · replace hf := ifn h2 hf
      refine r_iload_n (pc := 8) cx dX7_flipPlace_8 2 rfl ?_
      refine r_iconst (pc := 9) cx dX7_flipPlace_9 ic_5 ?_
      refine r_icmp_le (pc := 10) (tgt := 15) cx dX7_flipPlace_10 (by decide) (fun h3 => ?_) (fun h3 => ?_)
      · replace hf := ifp h3 hf
        refine r_aload_n (pc := 15) cx dX7_flipPlace_15 0 rfl ?_
        refine r_dup (pc := 16) cx dX7_flipPlace_16 rfl ?_
        refine r_get (pc := 17) cx cf_X7 0 4 rfl (by decide) rfl wd_317 dX7_flipPlace_17 ?_
        refine r_iconst (pc := 20) cx dX7_flipPlace_20 ic_1 ?_
        refine r_iload_n (pc := 21) cx dX7_flipPlace_21 2 rfl ?_
        refine r_ishl (pc := 22) cx dX7_flipPlace_22 ?_
        refine r_ixor (pc := 23) cx dX7_flipPlace_23 ?_
        replace hf := nm_of hf
        obtain ⟨x4, ex4, hf⟩ := hf
        refine r_nm ex4 ?_
        refine r_putI (pc := 24) (ws' := [((q 0), ob 6 [.ref (q 1), .ref (q 2), .ref (q 3), .ref (q 4), .int x4, .int (St_steps v)]), ((q 1), aI K 8 (St_registers v)), ((q 2), aI K 4 (St_floats v)), ((q 3), aI K 8 (St_stuckMask v)), ((q 4), aI K 8 (St_stuckOnes v))]) cx cf_X7 0 4 rfl (by decide) (Nat.le_of_ble_eq_true rfl) rfl pfd_I wd_317 dX7_flipPlace_24 rfl ?_
        refine r_iconst (pc := 27) cx dX7_flipPlace_27 ic_1 ?_
        have hi := inj2 hf
        exact r_zret (pc := 28) cx (Or.inr rfl) hi.1 (by rw [← hi.2]; (try simp only [cl_St, St_registers_mk, St_floats_mk, St_stuckMask_mk, St_stuckOnes_mk, St_place_mk, St_steps_mk, List.cons_append, List.nil_append, List.append_nil]) <;> rfl) dX7_flipPlace_28
      · replace hf := ifn h3 hf
        refine r_iconst (pc := 13) cx dX7_flipPlace_13 ic_0 ?_
        have hi := inj2 hf
        exact r_zret (pc := 14) cx (Or.inl rfl) hi.1 (by rw [← hi.2]; rfl) dX7_flipPlace_14
theorem yv_X7_flipPlace : YV yX7_flipPlace cX7_flipPlace 3 (some .boolean) 2 := ⟨⟨by decide +kernel, by decide +kernel, by decide +kernel⟩, wd_940, wd_96, wd_938, wd_939⟩
abbrev rm_St_differences : Room := { frames := 0, cells := 0, slots := 0, locals := 0 }
set_option maxRecDepth 100000 in
set_option maxHeartbeats 4000000 in
theorem m_St_differences (l : Launch) (D : va_G) (K : Nat → ClassId) (q : Nat → Nat) (v : T_St) (qw : Nat → Nat) (w : T_St) {r_ : Int32} (hf : f_St_differences v w = some r_) : MI l yX7_differences cX7_differences 4 (some .int) rm_St_differences D K [.ref (q 0), .ref (qw 0)] (cl_St K q v ++ (cl_St K qw w)) r_ (cl_St K q v ++ (cl_St K qw w)) := by
  refine MI_of (loc0 := [(0, .ref (q 0)), (1, .ref (qw 0))]) (by decide +kernel) rfl (Nat.le_of_ble_eq_true rfl) ?_
  intro p e s m args below meth c A cx
  unfold f_St_differences at hf
  refine r_ws (ws' := [((q 0), ob 6 [.ref (q 1), .ref (q 2), .ref (q 3), .ref (q 4), .int (St_place v), .int (St_steps v)]), ((q 1), aI K 8 (St_registers v)), ((q 2), aI K 4 (St_floats v)), ((q 3), aI K 8 (St_stuckMask v)), ((q 4), aI K 8 (St_stuckOnes v)), ((qw 0), ob 6 [.ref (qw 1), .ref (qw 2), .ref (qw 3), .ref (qw 4), .int (St_place w), .int (St_steps w)]), ((qw 1), aI K 8 (St_registers w)), ((qw 2), aI K 4 (St_floats w)), ((qw 3), aI K 8 (St_stuckMask w)), ((qw 4), aI K 8 (St_stuckOnes w))]) rfl ?_
  refine r_aload_n (pc := 0) cx dX7_differences_0 0 rfl ?_
  refine r_get (pc := 1) cx cf_X7 0 4 rfl (by decide) rfl wd_317 dX7_differences_1 ?_
  refine r_aload_n (pc := 4) cx dX7_differences_4 1 rfl ?_
  refine r_get (pc := 5) cx cf_X7 5 4 rfl (by decide) rfl wd_317 dX7_differences_5 ?_
  replace hf := nm_of hf
  obtain ⟨J2, eJ2, hf⟩ := hf
  have hJ2 : ∀ (y1 : Int32), J2 y1 = some r_ → WW p l e rm_St_differences s m args below meth c D A 4 0 0 (MQ below (QI D K A r_ (cl_St K q v ++ (cl_St K qw w))) args s 0 0 A) ([((q 0), ob 6 [.ref (q 1), .ref (q 2), .ref (q 3), .ref (q 4), .int (St_place v), .int (St_steps v)]), ((q 1), aI K 8 (St_registers v)), ((q 2), aI K 4 (St_floats v)), ((q 3), aI K 8 (St_stuckMask v)), ((q 4), aI K 8 (St_stuckOnes v)), ((qw 0), ob 6 [.ref (qw 1), .ref (qw 2), .ref (qw 3), .ref (qw 4), .int (St_place w), .int (St_steps w)]), ((qw 1), aI K 8 (St_registers w)), ((qw 2), aI K 4 (St_floats w)), ((qw 3), aI K 8 (St_stuckMask w)), ((qw 4), aI K 8 (St_stuckOnes w))]) ([(0, .ref (q 0)), (1, .ref (qw 0))]) ([.int y1]) 16 := by
    clear hf
    intro y1 hf
    rw [eJ2] at hf
    refine r_istore_n (pc := 16) (loc' := [(2, .int y1), (0, .ref (q 0)), (1, .ref (qw 0))]) cx dX7_differences_16 rfl (by decide) rfl ?_
    refine r_iconst (pc := 17) cx dX7_differences_17 ic_0 ?_
    refine r_istore_n (pc := 18) (loc' := [(3, .int (0 : Int32)), (2, .int y1), (0, .ref (q 0)), (1, .ref (qw 0))]) cx dX7_differences_18 rfl (by decide) rfl ?_
    have hL19 : ∀ (k19_54 : Int32 → Option (Int32)), (∀ (x5 : Int32), k19_54 x5 = some r_ → WW p l e rm_St_differences s m args below meth c D A 4 0 0 (MQ below (QI D K A r_ (cl_St K q v ++ (cl_St K qw w))) args s 0 0 A) ([((q 0), ob 6 [.ref (q 1), .ref (q 2), .ref (q 3), .ref (q 4), .int (St_place v), .int (St_steps v)]), ((q 1), aI K 8 (St_registers v)), ((q 2), aI K 4 (St_floats v)), ((q 3), aI K 8 (St_stuckMask v)), ((q 4), aI K 8 (St_stuckOnes v)), ((qw 0), ob 6 [.ref (qw 1), .ref (qw 2), .ref (qw 3), .ref (qw 4), .int (St_place w), .int (St_steps w)]), ((qw 1), aI K 8 (St_registers w)), ((qw 2), aI K 4 (St_floats w)), ((qw 3), aI K 8 (St_stuckMask w)), ((qw 4), aI K 8 (St_stuckOnes w))]) ([(0, .ref (q 0)), (1, .ref (qw 0)), (2, .int x5)]) ([]) 54) → ∀ (n19 : Nat) (x3 : Int32) (x4 : Int32), f_St_differences_L19 v w k19_54 n19 x3 x4 = some r_ → WW p l e rm_St_differences s m args below meth c D A 4 0 0 (MQ below (QI D K A r_ (cl_St K q v ++ (cl_St K qw w))) args s 0 0 A) ([((q 0), ob 6 [.ref (q 1), .ref (q 2), .ref (q 3), .ref (q 4), .int (St_place v), .int (St_steps v)]), ((q 1), aI K 8 (St_registers v)), ((q 2), aI K 4 (St_floats v)), ((q 3), aI K 8 (St_stuckMask v)), ((q 4), aI K 8 (St_stuckOnes v)), ((qw 0), ob 6 [.ref (qw 1), .ref (qw 2), .ref (qw 3), .ref (qw 4), .int (St_place w), .int (St_steps w)]), ((qw 1), aI K 8 (St_registers w)), ((qw 2), aI K 4 (St_floats w)), ((qw 3), aI K 8 (St_stuckMask w)), ((qw 4), aI K 8 (St_stuckOnes w))]) ([(0, .ref (q 0)), (1, .ref (qw 0)), (2, .int x3), (3, .int x4)]) ([]) 19 := by
      clear hf
      intro k19_54 hk19_54 n19
      induction n19 with
      | zero => intro x3 x4 hf; exact (nomatch (show (none : Option (Int32)) = some _ from hf))
      | succ n19 ih19 =>
        intro x3 x4 hf
        rw [f_St_differences_L19] at hf
        refine r_iload_n (pc := 19) cx dX7_differences_19 3 rfl ?_
        refine r_bipush (pc := 20) cx dX7_differences_20 bp_8 ?_
        refine r_icmp_ge (pc := 22) (tgt := 54) cx dX7_differences_22 (by decide) (fun h6 => ?_) (fun h6 => ?_)
        · replace hf := ifp h6 hf
          refine r_loc (loc' := [(0, .ref (q 0)), (1, .ref (qw 0)), (2, .int x3)]) [0, 1, 2] rfl ?_
          exact hk19_54 _ hf
        · replace hf := ifn h6 hf
          refine r_iload_n (pc := 25) cx dX7_differences_25 2 rfl ?_
          refine r_aload_n (pc := 26) cx dX7_differences_26 0 rfl ?_
          refine r_get (pc := 27) cx cf_X7 0 0 rfl (by decide) rfl wd_311 dX7_differences_27 ?_
          refine r_iload_n (pc := 30) cx dX7_differences_30 3 rfl ?_
          replace hf := chk_of hf
          obtain ⟨h7, hf⟩ := hf
          refine r_iald (pc := 31) cx 1 rfl h7 dX7_differences_31 ?_
          refine r_aload_n (pc := 32) cx dX7_differences_32 1 rfl ?_
          refine r_get (pc := 33) cx cf_X7 5 0 rfl (by decide) rfl wd_311 dX7_differences_33 ?_
          refine r_iload_n (pc := 36) cx dX7_differences_36 3 rfl ?_
          replace hf := chk_of hf
          obtain ⟨h8, hf⟩ := hf
          refine r_iald (pc := 37) cx 6 rfl h8 dX7_differences_37 ?_
          refine r_icmp_ne (pc := 38) (tgt := 45) cx dX7_differences_38 (by decide) (fun h9 => ?_) (fun h9 => ?_)
          · replace hf := ifn h9 hf
            refine r_iconst (pc := 45) cx dX7_differences_45 ic_1 ?_
            refine r_iadd (pc := 46) cx dX7_differences_46 ?_
            replace hf := nm_of hf
            obtain ⟨x10, ex10, hf⟩ := hf
            refine r_nm ex10 ?_
            refine r_istore_n (pc := 47) (loc' := [(2, .int x10), (0, .ref (q 0)), (1, .ref (qw 0)), (3, .int x4)]) cx dX7_differences_47 rfl (by decide) rfl ?_
            replace hf := nm_of hf
            obtain ⟨x11, ex11, hf⟩ := hf
            refine r_iinc (pc := 48) (loc' := [(3, .int x11), (2, .int x10), (0, .ref (q 0)), (1, .ref (qw 0))]) (v := x11) cx dX7_differences_48 3 rfl ((congrArg (fun z => x4 + z) ic_1).trans ex11.symm) (by decide) rfl ?_
            refine r_goto (pc := 51) (tgt := 19) cx dX7_differences_51 (by decide) ?_
            refine r_loc (loc' := [(0, .ref (q 0)), (1, .ref (qw 0)), (2, .int x10), (3, .int x11)]) [2, 3, 1, 0] rfl ?_
            exact ih19 _ _ hf
          · replace hf := ifp h9 hf
            refine r_iconst (pc := 41) cx dX7_differences_41 ic_0 ?_
            refine r_goto (pc := 42) (tgt := 46) cx dX7_differences_42 (by decide) ?_
            refine r_iadd (pc := 46) cx dX7_differences_46 ?_
            replace hf := nm_of hf
            obtain ⟨x12, ex12, hf⟩ := hf
            refine r_nm ex12 ?_
            refine r_istore_n (pc := 47) (loc' := [(2, .int x12), (0, .ref (q 0)), (1, .ref (qw 0)), (3, .int x4)]) cx dX7_differences_47 rfl (by decide) rfl ?_
            replace hf := nm_of hf
            obtain ⟨x13, ex13, hf⟩ := hf
            refine r_iinc (pc := 48) (loc' := [(3, .int x13), (2, .int x12), (0, .ref (q 0)), (1, .ref (qw 0))]) (v := x13) cx dX7_differences_48 3 rfl ((congrArg (fun z => x4 + z) ic_1).trans ex13.symm) (by decide) rfl ?_
            refine r_goto (pc := 51) (tgt := 19) cx dX7_differences_51 (by decide) ?_
            refine r_loc (loc' := [(0, .ref (q 0)), (1, .ref (qw 0)), (2, .int x12), (3, .int x13)]) [2, 3, 1, 0] rfl ?_
            exact ih19 _ _ hf
    refine r_loc (loc' := [(0, .ref (q 0)), (1, .ref (qw 0)), (2, .int y1), (3, .int (0 : Int32))]) [2, 3, 1, 0] rfl ?_
    refine hL19 _ (fun x5 hf => ?_) _ _ _ hf
    refine r_iconst (pc := 54) cx dX7_differences_54 ic_0 ?_
    refine r_istore_n (pc := 55) (loc' := [(3, .int (0 : Int32)), (0, .ref (q 0)), (1, .ref (qw 0)), (2, .int x5)]) cx dX7_differences_55 rfl (by decide) rfl ?_
    have hL56 : ∀ (k56_90 : Int32 → Option (Int32)), (∀ (x16 : Int32), k56_90 x16 = some r_ → WW p l e rm_St_differences s m args below meth c D A 4 0 0 (MQ below (QI D K A r_ (cl_St K q v ++ (cl_St K qw w))) args s 0 0 A) ([((q 0), ob 6 [.ref (q 1), .ref (q 2), .ref (q 3), .ref (q 4), .int (St_place v), .int (St_steps v)]), ((q 1), aI K 8 (St_registers v)), ((q 2), aI K 4 (St_floats v)), ((q 3), aI K 8 (St_stuckMask v)), ((q 4), aI K 8 (St_stuckOnes v)), ((qw 0), ob 6 [.ref (qw 1), .ref (qw 2), .ref (qw 3), .ref (qw 4), .int (St_place w), .int (St_steps w)]), ((qw 1), aI K 8 (St_registers w)), ((qw 2), aI K 4 (St_floats w)), ((qw 3), aI K 8 (St_stuckMask w)), ((qw 4), aI K 8 (St_stuckOnes w))]) ([(2, .int x16)]) ([]) 90) → ∀ (n56 : Nat) (x14 : Int32) (x15 : Int32), f_St_differences_L56 v w k56_90 n56 x14 x15 = some r_ → WW p l e rm_St_differences s m args below meth c D A 4 0 0 (MQ below (QI D K A r_ (cl_St K q v ++ (cl_St K qw w))) args s 0 0 A) ([((q 0), ob 6 [.ref (q 1), .ref (q 2), .ref (q 3), .ref (q 4), .int (St_place v), .int (St_steps v)]), ((q 1), aI K 8 (St_registers v)), ((q 2), aI K 4 (St_floats v)), ((q 3), aI K 8 (St_stuckMask v)), ((q 4), aI K 8 (St_stuckOnes v)), ((qw 0), ob 6 [.ref (qw 1), .ref (qw 2), .ref (qw 3), .ref (qw 4), .int (St_place w), .int (St_steps w)]), ((qw 1), aI K 8 (St_registers w)), ((qw 2), aI K 4 (St_floats w)), ((qw 3), aI K 8 (St_stuckMask w)), ((qw 4), aI K 8 (St_stuckOnes w))]) ([(0, .ref (q 0)), (1, .ref (qw 0)), (2, .int x14), (3, .int x15)]) ([]) 56 := by
      clear hf
      intro k56_90 hk56_90 n56
      induction n56 with
      | zero => intro x14 x15 hf; exact (nomatch (show (none : Option (Int32)) = some _ from hf))
      | succ n56 ih56 =>
        intro x14 x15 hf
        rw [f_St_differences_L56] at hf
        refine r_iload_n (pc := 56) cx dX7_differences_56 3 rfl ?_
        refine r_iconst (pc := 57) cx dX7_differences_57 ic_4 ?_
        refine r_icmp_ge (pc := 58) (tgt := 90) cx dX7_differences_58 (by decide) (fun h17 => ?_) (fun h17 => ?_)
        · replace hf := ifp h17 hf
          refine r_loc (loc' := [(2, .int x14)]) [2] rfl ?_
          exact hk56_90 _ hf
        · replace hf := ifn h17 hf
          refine r_iload_n (pc := 61) cx dX7_differences_61 2 rfl ?_
          refine r_aload_n (pc := 62) cx dX7_differences_62 0 rfl ?_
          refine r_get (pc := 63) cx cf_X7 0 1 rfl (by decide) rfl wd_313 dX7_differences_63 ?_
          refine r_iload_n (pc := 66) cx dX7_differences_66 3 rfl ?_
          replace hf := chk_of hf
          obtain ⟨h18, hf⟩ := hf
          refine r_iald (pc := 67) cx 2 rfl h18 dX7_differences_67 ?_
          refine r_aload_n (pc := 68) cx dX7_differences_68 1 rfl ?_
          refine r_get (pc := 69) cx cf_X7 5 1 rfl (by decide) rfl wd_313 dX7_differences_69 ?_
          refine r_iload_n (pc := 72) cx dX7_differences_72 3 rfl ?_
          replace hf := chk_of hf
          obtain ⟨h19, hf⟩ := hf
          refine r_iald (pc := 73) cx 7 rfl h19 dX7_differences_73 ?_
          refine r_icmp_ne (pc := 74) (tgt := 81) cx dX7_differences_74 (by decide) (fun h20 => ?_) (fun h20 => ?_)
          · replace hf := ifn h20 hf
            refine r_iconst (pc := 81) cx dX7_differences_81 ic_1 ?_
            refine r_iadd (pc := 82) cx dX7_differences_82 ?_
            replace hf := nm_of hf
            obtain ⟨x21, ex21, hf⟩ := hf
            refine r_nm ex21 ?_
            refine r_istore_n (pc := 83) (loc' := [(2, .int x21), (0, .ref (q 0)), (1, .ref (qw 0)), (3, .int x15)]) cx dX7_differences_83 rfl (by decide) rfl ?_
            replace hf := nm_of hf
            obtain ⟨x22, ex22, hf⟩ := hf
            refine r_iinc (pc := 84) (loc' := [(3, .int x22), (2, .int x21), (0, .ref (q 0)), (1, .ref (qw 0))]) (v := x22) cx dX7_differences_84 3 rfl ((congrArg (fun z => x15 + z) ic_1).trans ex22.symm) (by decide) rfl ?_
            refine r_goto (pc := 87) (tgt := 56) cx dX7_differences_87 (by decide) ?_
            refine r_loc (loc' := [(0, .ref (q 0)), (1, .ref (qw 0)), (2, .int x21), (3, .int x22)]) [2, 3, 1, 0] rfl ?_
            exact ih56 _ _ hf
          · replace hf := ifp h20 hf
            refine r_iconst (pc := 77) cx dX7_differences_77 ic_0 ?_
            refine r_goto (pc := 78) (tgt := 82) cx dX7_differences_78 (by decide) ?_
            refine r_iadd (pc := 82) cx dX7_differences_82 ?_
            replace hf := nm_of hf
            obtain ⟨x23, ex23, hf⟩ := hf
            refine r_nm ex23 ?_
            refine r_istore_n (pc := 83) (loc' := [(2, .int x23), (0, .ref (q 0)), (1, .ref (qw 0)), (3, .int x15)]) cx dX7_differences_83 rfl (by decide) rfl ?_
            replace hf := nm_of hf
            obtain ⟨x24, ex24, hf⟩ := hf
            refine r_iinc (pc := 84) (loc' := [(3, .int x24), (2, .int x23), (0, .ref (q 0)), (1, .ref (qw 0))]) (v := x24) cx dX7_differences_84 3 rfl ((congrArg (fun z => x15 + z) ic_1).trans ex24.symm) (by decide) rfl ?_
            refine r_goto (pc := 87) (tgt := 56) cx dX7_differences_87 (by decide) ?_
            refine r_loc (loc' := [(0, .ref (q 0)), (1, .ref (qw 0)), (2, .int x23), (3, .int x24)]) [2, 3, 1, 0] rfl ?_
            exact ih56 _ _ hf
    refine r_loc (loc' := [(0, .ref (q 0)), (1, .ref (qw 0)), (2, .int x5), (3, .int (0 : Int32))]) [1, 2, 3, 0] rfl ?_
    refine hL56 _ (fun x16 hf => ?_) _ _ _ hf
    refine r_iload_n (pc := 90) cx dX7_differences_90 0 rfl ?_
    have hi := inj1 hf
    exact r_iret (pc := 91) cx hi rfl dX7_differences_91
  refine r_icmp_ne (pc := 8) (tgt := 15) cx dX7_differences_8 (by decide) (fun h25 => ?_) (fun h25 => ?_)
  · replace hf := ifn h25 hf
    refine r_iconst (pc := 15) cx dX7_differences_15 ic_1 ?_
    exact hJ2 _ hf
  · replace hf := ifp h25 hf
    refine r_iconst (pc := 11) cx dX7_differences_11 ic_0 ?_
    refine r_goto (pc := 12) (tgt := 16) cx dX7_differences_12 (by decide) ?_
    exact hJ2 _ hf
theorem yv_X7_differences : YV yX7_differences cX7_differences 4 (some .int) 1 := ⟨⟨by decide +kernel, by decide +kernel, by decide +kernel⟩, wd_776, wd_96, wd_774, wd_775⟩
abbrev rm_St_isHalted : Room := { frames := 0, cells := 0, slots := 0, locals := 0 }
set_option maxRecDepth 100000 in
set_option maxHeartbeats 4000000 in
theorem m_St_isHalted (l : Launch) (D : va_G) (K : Nat → ClassId) (q : Nat → Nat) (v : T_St) (g : Nat → Nat) (pr : T_Pg) {r_ : Int32} (hf : f_St_isHalted v pr = some r_) : MI l yX7_isHalted cX7_isHalted 2 (some .boolean) rm_St_isHalted D K [.ref (q 0), .ref (g 0)] (cl_St K q v ++ (cl_Pg K g pr)) r_ (cl_St K q v ++ (cl_Pg K g pr)) := by
  refine MI_of (loc0 := [(0, .ref (q 0)), (1, .ref (g 0))]) (by decide +kernel) rfl (Nat.le_of_ble_eq_true rfl) ?_
  intro p e s m args below meth c A cx
  unfold f_St_isHalted at hf
  refine r_ws (ws' := [((q 0), ob 6 [.ref (q 1), .ref (q 2), .ref (q 3), .ref (q 4), .int (St_place v), .int (St_steps v)]), ((q 1), aI K 8 (St_registers v)), ((q 2), aI K 4 (St_floats v)), ((q 3), aI K 8 (St_stuckMask v)), ((q 4), aI K 8 (St_stuckOnes v)), ((g 0), ob 3 [.ref (g 1), .ref (g 2), .ref (g 3), .ref (g 4), .ref (g 5), .ref (g 6), .ref (g 7), .ref (g 8), .int (Pg_nameCount pr), .int (Pg_size pr), .int (Pg_lines pr)]), ((g 1), aI K 64 (Pg_code pr)), ((g 2), aI K 64 (Pg_first pr)), ((g 3), aI K 64 (Pg_second pr)), ((g 4), aI K 64 (Pg_third pr)), ((g 5), aI K 8 (Pg_rules pr)), ((g 6), aI K 32 (Pg_data pr)), ((g 7), aI K 140 (Pg_names pr)), ((g 8), aI K 140 (Pg_namedPlaces pr))]) rfl ?_
  refine r_aload_n (pc := 0) cx dX7_isHalted_0 1 rfl ?_
  refine r_get (pc := 1) cx cf_X4 5 0 rfl (by decide) rfl wd_136 dX7_isHalted_1 ?_
  refine r_aload_n (pc := 4) cx dX7_isHalted_4 0 rfl ?_
  refine r_get (pc := 5) cx cf_X7 0 4 rfl (by decide) rfl wd_317 dX7_isHalted_5 ?_
  refine r_bipush (pc := 8) cx dX7_isHalted_8 bp_63 ?_
  refine r_iand (pc := 10) cx dX7_isHalted_10 ?_
  refine r_iald (pc := 11) cx 6 rfl (ix_and63 _) dX7_isHalted_11 ?_
  refine r_if_ne (pc := 12) (tgt := 19) cx dX7_isHalted_12 (by decide) (fun h1 => ?_) (fun h1 => ?_)
  · replace hf := ifn h1 hf
    refine r_iconst (pc := 19) cx dX7_isHalted_19 ic_0 ?_
    have hi := inj1 hf
    exact r_zret (pc := 20) cx (Or.inl rfl) hi rfl dX7_isHalted_20
  · replace hf := ifp h1 hf
    refine r_iconst (pc := 15) cx dX7_isHalted_15 ic_1 ?_
    refine r_goto (pc := 16) (tgt := 20) cx dX7_isHalted_16 (by decide) ?_
    have hi := inj1 hf
    exact r_zret (pc := 20) cx (Or.inr rfl) hi rfl dX7_isHalted_20
theorem yv_X7_isHalted : YV yX7_isHalted cX7_isHalted 2 (some .boolean) 1 := ⟨⟨by decide +kernel, by decide +kernel, by decide +kernel⟩, wd_907, wd_96, wd_905, wd_906⟩
abbrev rm_St_address : Room := { frames := 0, cells := 0, slots := 0, locals := 0 }
set_option maxRecDepth 100000 in
set_option maxHeartbeats 4000000 in
theorem m_St_address (l : Launch) (D : va_G) (K : Nat → ClassId) (q : Nat → Nat) (v : T_St) (g : Nat → Nat) (pr : T_Pg) {r_ : Int32} (hf : f_St_address v pr = some r_) : MI l yX7_address cX7_address 3 (some .int) rm_St_address D K [.ref (q 0), .ref (g 0)] (cl_St K q v ++ (cl_Pg K g pr)) r_ (cl_St K q v ++ (cl_Pg K g pr)) := by
  refine MI_of (loc0 := [(0, .ref (q 0)), (1, .ref (g 0))]) (by decide +kernel) rfl (Nat.le_of_ble_eq_true rfl) ?_
  intro p e s m args below meth c A cx
  unfold f_St_address at hf
  refine r_ws (ws' := [((q 0), ob 6 [.ref (q 1), .ref (q 2), .ref (q 3), .ref (q 4), .int (St_place v), .int (St_steps v)]), ((q 1), aI K 8 (St_registers v)), ((q 2), aI K 4 (St_floats v)), ((q 3), aI K 8 (St_stuckMask v)), ((q 4), aI K 8 (St_stuckOnes v)), ((g 0), ob 3 [.ref (g 1), .ref (g 2), .ref (g 3), .ref (g 4), .ref (g 5), .ref (g 6), .ref (g 7), .ref (g 8), .int (Pg_nameCount pr), .int (Pg_size pr), .int (Pg_lines pr)]), ((g 1), aI K 64 (Pg_code pr)), ((g 2), aI K 64 (Pg_first pr)), ((g 3), aI K 64 (Pg_second pr)), ((g 4), aI K 64 (Pg_third pr)), ((g 5), aI K 8 (Pg_rules pr)), ((g 6), aI K 32 (Pg_data pr)), ((g 7), aI K 140 (Pg_names pr)), ((g 8), aI K 140 (Pg_namedPlaces pr))]) rfl ?_
  refine r_aload_n (pc := 0) cx dX7_address_0 0 rfl ?_
  refine r_get (pc := 1) cx cf_X7 0 4 rfl (by decide) rfl wd_317 dX7_address_1 ?_
  refine r_bipush (pc := 4) cx dX7_address_4 bp_63 ?_
  refine r_iand (pc := 6) cx dX7_address_6 ?_
  replace hf := nm_of hf
  obtain ⟨x1, ex1, hf⟩ := hf
  refine r_nm ex1 ?_
  refine r_istore_n (pc := 7) (loc' := [(2, .int x1), (0, .ref (q 0)), (1, .ref (g 0))]) cx dX7_address_7 rfl (by decide) rfl ?_
  refine r_aload_n (pc := 8) cx dX7_address_8 2 rfl ?_
  refine r_get (pc := 9) cx cf_X4 5 0 rfl (by decide) rfl wd_136 dX7_address_9 ?_
  refine r_iload_n (pc := 12) cx dX7_address_12 0 rfl ?_
  refine r_iald (pc := 13) cx 6 rfl (by rw [ex1]; exact ix_and63 _) dX7_address_13 ?_
  refine r_bipush (pc := 14) cx dX7_address_14 bp_8 ?_
  refine r_icmp_ne (pc := 16) (tgt := 22) cx dX7_address_16 (by decide) (fun h2 => ?_) (fun h2 => ?_)
  · replace hf := ifn h2 hf
    refine r_aload_n (pc := 22) cx dX7_address_22 1 rfl ?_
    refine r_get (pc := 23) cx cf_X7 0 0 rfl (by decide) rfl wd_311 dX7_address_23 ?_
    refine r_aload_n (pc := 26) cx dX7_address_26 2 rfl ?_
    refine r_get (pc := 27) cx cf_X4 5 2 rfl (by decide) rfl wd_140 dX7_address_27 ?_
    refine r_iload_n (pc := 30) cx dX7_address_30 0 rfl ?_
    refine r_iald (pc := 31) cx 8 rfl (by rw [ex1]; exact ix_and63 _) dX7_address_31 ?_
    refine r_bipush (pc := 32) cx dX7_address_32 bp_7 ?_
    refine r_iand (pc := 34) cx dX7_address_34 ?_
    refine r_iald (pc := 35) cx 1 rfl (ix_and7 _) dX7_address_35 ?_
    refine r_aload_n (pc := 36) cx dX7_address_36 2 rfl ?_
    refine r_get (pc := 37) cx cf_X4 5 3 rfl (by decide) rfl wd_143 dX7_address_37 ?_
    refine r_iload_n (pc := 40) cx dX7_address_40 0 rfl ?_
    refine r_iald (pc := 41) cx 9 rfl (by rw [ex1]; exact ix_and63 _) dX7_address_41 ?_
    refine r_iadd (pc := 42) cx dX7_address_42 ?_
    refine r_bipush (pc := 43) cx dX7_address_43 bp_31 ?_
    refine r_iand (pc := 45) cx dX7_address_45 ?_
    have hi := inj1 hf
    exact r_iret (pc := 46) cx hi rfl dX7_address_46
  · replace hf := ifp h2 hf
    refine r_bipush (pc := 19) cx dX7_address_19 bp_32 ?_
    have hi := inj1 hf
    exact r_iret (pc := 21) cx hi rfl dX7_address_21
theorem yv_X7_address : YV yX7_address cX7_address 3 (some .int) 1 := ⟨⟨by decide +kernel, by decide +kernel, by decide +kernel⟩, wd_741, wd_96, wd_739, wd_740⟩
abbrev rm_St_word : Room := { frames := 0, cells := 0, slots := 0, locals := 0 }
set_option maxRecDepth 100000 in
set_option maxHeartbeats 4000000 in
theorem m_St_word (l : Launch) (D : va_G) (K : Nat → ClassId) (q : Nat → Nat) (v : T_St) (g : Nat → Nat) (pr : T_Pg) {r_ : Int32} (hf : f_St_word v pr = some r_) : MI l yX7_word cX7_word 2 (some .int) rm_St_word D K [.ref (q 0), .ref (g 0)] (cl_St K q v ++ (cl_Pg K g pr)) r_ (cl_St K q v ++ (cl_Pg K g pr)) := by
  refine MI_of (loc0 := [(0, .ref (q 0)), (1, .ref (g 0))]) (by decide +kernel) rfl (Nat.le_of_ble_eq_true rfl) ?_
  intro p e s m args below meth c A cx
  unfold f_St_word at hf
  refine r_ws (ws' := [((q 0), ob 6 [.ref (q 1), .ref (q 2), .ref (q 3), .ref (q 4), .int (St_place v), .int (St_steps v)]), ((q 1), aI K 8 (St_registers v)), ((q 2), aI K 4 (St_floats v)), ((q 3), aI K 8 (St_stuckMask v)), ((q 4), aI K 8 (St_stuckOnes v)), ((g 0), ob 3 [.ref (g 1), .ref (g 2), .ref (g 3), .ref (g 4), .ref (g 5), .ref (g 6), .ref (g 7), .ref (g 8), .int (Pg_nameCount pr), .int (Pg_size pr), .int (Pg_lines pr)]), ((g 1), aI K 64 (Pg_code pr)), ((g 2), aI K 64 (Pg_first pr)), ((g 3), aI K 64 (Pg_second pr)), ((g 4), aI K 64 (Pg_third pr)), ((g 5), aI K 8 (Pg_rules pr)), ((g 6), aI K 32 (Pg_data pr)), ((g 7), aI K 140 (Pg_names pr)), ((g 8), aI K 140 (Pg_namedPlaces pr))]) rfl ?_
  refine r_aload_n (pc := 0) cx dX7_word_0 0 rfl ?_
  refine r_get (pc := 1) cx cf_X7 0 0 rfl (by decide) rfl wd_311 dX7_word_1 ?_
  refine r_aload_n (pc := 4) cx dX7_word_4 1 rfl ?_
  refine r_get (pc := 5) cx cf_X4 5 1 rfl (by decide) rfl wd_138 dX7_word_5 ?_
  refine r_aload_n (pc := 8) cx dX7_word_8 0 rfl ?_
  refine r_get (pc := 9) cx cf_X7 0 4 rfl (by decide) rfl wd_317 dX7_word_9 ?_
  refine r_bipush (pc := 12) cx dX7_word_12 bp_63 ?_
  refine r_iand (pc := 14) cx dX7_word_14 ?_
  refine r_iald (pc := 15) cx 7 rfl (ix_and63 _) dX7_word_15 ?_
  refine r_bipush (pc := 16) cx dX7_word_16 bp_7 ?_
  refine r_iand (pc := 18) cx dX7_word_18 ?_
  replace hf := nm_of hf
  obtain ⟨x1, ex1, hf⟩ := hf
  refine r_nm ex1 ?_
  refine r_iald (pc := 19) cx 1 rfl (by rw [ex1]; exact ix_and7 _) dX7_word_19 ?_
  have hi := inj1 hf
  exact r_iret (pc := 20) cx hi rfl dX7_word_20
theorem yv_X7_word : YV yX7_word cX7_word 2 (some .int) 1 := ⟨⟨by decide +kernel, by decide +kernel, by decide +kernel⟩, wd_764, wd_96, wd_762, wd_763⟩
abbrev rm_St_goesElsewhere : Room := { frames := 2, cells := 0, slots := 0, locals := 41 }
set_option maxRecDepth 100000 in
set_option maxHeartbeats 4000000 in
theorem m_St_goesElsewhere (l : Launch) (D : va_G) (K : Nat → ClassId) (q : Nat → Nat) (v : T_St) (g : Nat → Nat) (pr : T_Pg) {r_ : Int32} (hf : f_St_goesElsewhere v pr = some r_) : MI l yX7_goesElsewhere cX7_goesElsewhere 5 (some .boolean) rm_St_goesElsewhere D K [.ref (q 0), .ref (g 0)] (cl_St K q v ++ (cl_Pg K g pr)) r_ (cl_St K q v ++ (cl_Pg K g pr)) := by
  refine MI_of (loc0 := [(0, .ref (q 0)), (1, .ref (g 0))]) (by decide +kernel) rfl (Nat.le_of_ble_eq_true rfl) ?_
  intro p e s m args below meth c A cx
  unfold f_St_goesElsewhere at hf
  refine r_ws (ws' := [((q 0), ob 6 [.ref (q 1), .ref (q 2), .ref (q 3), .ref (q 4), .int (St_place v), .int (St_steps v)]), ((q 1), aI K 8 (St_registers v)), ((q 2), aI K 4 (St_floats v)), ((q 3), aI K 8 (St_stuckMask v)), ((q 4), aI K 8 (St_stuckOnes v)), ((g 0), ob 3 [.ref (g 1), .ref (g 2), .ref (g 3), .ref (g 4), .ref (g 5), .ref (g 6), .ref (g 7), .ref (g 8), .int (Pg_nameCount pr), .int (Pg_size pr), .int (Pg_lines pr)]), ((g 1), aI K 64 (Pg_code pr)), ((g 2), aI K 64 (Pg_first pr)), ((g 3), aI K 64 (Pg_second pr)), ((g 4), aI K 64 (Pg_third pr)), ((g 5), aI K 8 (Pg_rules pr)), ((g 6), aI K 32 (Pg_data pr)), ((g 7), aI K 140 (Pg_names pr)), ((g 8), aI K 140 (Pg_namedPlaces pr))]) rfl ?_
  refine r_aload_n (pc := 0) cx dX7_goesElsewhere_0 0 rfl ?_
  refine r_get (pc := 1) cx cf_X7 0 4 rfl (by decide) rfl wd_317 dX7_goesElsewhere_1 ?_
  refine r_bipush (pc := 4) cx dX7_goesElsewhere_4 bp_63 ?_
  refine r_iand (pc := 6) cx dX7_goesElsewhere_6 ?_
  replace hf := nm_of hf
  obtain ⟨x1, ex1, hf⟩ := hf
  refine r_nm ex1 ?_
  refine r_istore_n (pc := 7) (loc' := [(2, .int x1), (0, .ref (q 0)), (1, .ref (g 0))]) cx dX7_goesElsewhere_7 rfl (by decide) rfl ?_
  refine r_aload_n (pc := 8) cx dX7_goesElsewhere_8 2 rfl ?_
  refine r_get (pc := 9) cx cf_X4 5 1 rfl (by decide) rfl wd_138 dX7_goesElsewhere_9 ?_
  refine r_iload_n (pc := 12) cx dX7_goesElsewhere_12 0 rfl ?_
  refine r_iald (pc := 13) cx 7 rfl (by rw [ex1]; exact ix_and63 _) dX7_goesElsewhere_13 ?_
  replace hf := nm_of hf
  obtain ⟨x2, ex2, hf⟩ := hf
  refine r_nm ex2 ?_
  refine r_istore_n (pc := 14) (loc' := [(3, .int x2), (2, .int x1), (0, .ref (q 0)), (1, .ref (g 0))]) cx dX7_goesElsewhere_14 rfl (by decide) rfl ?_
  refine r_aload_n (pc := 15) cx dX7_goesElsewhere_15 3 rfl ?_
  refine r_get (pc := 16) cx cf_X4 5 2 rfl (by decide) rfl wd_140 dX7_goesElsewhere_16 ?_
  refine r_iload_n (pc := 19) cx dX7_goesElsewhere_19 1 rfl ?_
  refine r_iald (pc := 20) cx 8 rfl (by rw [ex1]; exact ix_and63 _) dX7_goesElsewhere_20 ?_
  replace hf := nm_of hf
  obtain ⟨x3, ex3, hf⟩ := hf
  refine r_nm ex3 ?_
  refine r_istore (pc := 21) (loc' := [(4, .int x3), (3, .int x2), (2, .int x1), (0, .ref (q 0)), (1, .ref (g 0))]) cx dX7_goesElsewhere_21 (by decide) rfl ?_
  refine r_aload_n (pc := 23) cx dX7_goesElsewhere_23 4 rfl ?_
  refine r_get (pc := 24) cx cf_X4 5 0 rfl (by decide) rfl wd_136 dX7_goesElsewhere_24 ?_
  refine r_iload_n (pc := 27) cx dX7_goesElsewhere_27 2 rfl ?_
  refine r_iald (pc := 28) cx 6 rfl (by rw [ex1]; exact ix_and63 _) dX7_goesElsewhere_28 ?_
  replace hf := nm_of hf
  obtain ⟨x4, ex4, hf⟩ := hf
  refine r_nm ex4 ?_
  by_cases h5 : x4 = (15 : Int32)
  · replace hf := ifp h5 hf
    refine r_tin (pc := 29) (tgt := 56) cx (15 : Int32) h5 dX7_goesElsewhere_29 (by decide) (by decide) rfl (by decide) ?_
    refine r_aload_n (pc := 56) cx dX7_goesElsewhere_56 3 rfl ?_
    refine r_get (pc := 57) cx cf_X7 0 0 rfl (by decide) rfl wd_311 dX7_goesElsewhere_57 ?_
    refine r_iload_n (pc := 60) cx dX7_goesElsewhere_60 1 rfl ?_
    refine r_bipush (pc := 61) cx dX7_goesElsewhere_61 bp_7 ?_
    refine r_iand (pc := 63) cx dX7_goesElsewhere_63 ?_
    refine r_iald (pc := 64) cx 1 rfl (ix_and7 _) dX7_goesElsewhere_64 ?_
    refine r_if_ne (pc := 65) (tgt := 72) cx dX7_goesElsewhere_65 (by decide) (fun h6 => ?_) (fun h6 => ?_)
    · replace hf := ifn h6 hf
      refine r_iconst (pc := 72) cx dX7_goesElsewhere_72 ic_0 ?_
      have hi := inj1 hf
      exact r_zret (pc := 73) cx (Or.inl rfl) hi rfl dX7_goesElsewhere_73
    · replace hf := ifp h6 hf
      refine r_iconst (pc := 68) cx dX7_goesElsewhere_68 ic_1 ?_
      refine r_goto (pc := 69) (tgt := 73) cx dX7_goesElsewhere_69 (by decide) ?_
      have hi := inj1 hf
      exact r_zret (pc := 73) cx (Or.inr rfl) hi rfl dX7_goesElsewhere_73
  · replace hf := ifn h5 hf
    by_cases h7 : x4 = (16 : Int32)
    · replace hf := ifp h7 hf
      refine r_tin (pc := 29) (tgt := 74) cx (16 : Int32) h7 dX7_goesElsewhere_29 (by decide) (by decide) rfl (by decide) ?_
      refine r_aload_n (pc := 74) cx dX7_goesElsewhere_74 3 rfl ?_
      refine r_get (pc := 75) cx cf_X7 0 0 rfl (by decide) rfl wd_311 dX7_goesElsewhere_75 ?_
      refine r_iload_n (pc := 78) cx dX7_goesElsewhere_78 1 rfl ?_
      refine r_bipush (pc := 79) cx dX7_goesElsewhere_79 bp_7 ?_
      refine r_iand (pc := 81) cx dX7_goesElsewhere_81 ?_
      refine r_iald (pc := 82) cx 1 rfl (ix_and7 _) dX7_goesElsewhere_82 ?_
      refine r_aload_n (pc := 83) cx dX7_goesElsewhere_83 3 rfl ?_
      refine r_get (pc := 84) cx cf_X7 0 0 rfl (by decide) rfl wd_311 dX7_goesElsewhere_84 ?_
      refine r_iload (pc := 87) cx dX7_goesElsewhere_87 0 rfl ?_
      refine r_bipush (pc := 89) cx dX7_goesElsewhere_89 bp_7 ?_
      refine r_iand (pc := 91) cx dX7_goesElsewhere_91 ?_
      refine r_iald (pc := 92) cx 1 rfl (ix_and7 _) dX7_goesElsewhere_92 ?_
      refine r_icmp_ge (pc := 93) (tgt := 100) cx dX7_goesElsewhere_93 (by decide) (fun h8 => ?_) (fun h8 => ?_)
      · replace hf := ifp h8 hf
        refine r_iconst (pc := 100) cx dX7_goesElsewhere_100 ic_0 ?_
        have hi := inj1 hf
        exact r_zret (pc := 101) cx (Or.inl rfl) hi rfl dX7_goesElsewhere_101
      · replace hf := ifn h8 hf
        refine r_iconst (pc := 96) cx dX7_goesElsewhere_96 ic_1 ?_
        refine r_goto (pc := 97) (tgt := 101) cx dX7_goesElsewhere_97 (by decide) ?_
        have hi := inj1 hf
        exact r_zret (pc := 101) cx (Or.inr rfl) hi rfl dX7_goesElsewhere_101
    · replace hf := ifn h7 hf
      by_cases h9 : x4 = (17 : Int32)
      · replace hf := ifp h9 hf
        refine r_tin (pc := 29) (tgt := 102) cx (17 : Int32) h9 dX7_goesElsewhere_29 (by decide) (by decide) rfl (by decide) ?_
        refine r_aload_n (pc := 102) cx dX7_goesElsewhere_102 3 rfl ?_
        refine r_get (pc := 103) cx cf_X7 0 1 rfl (by decide) rfl wd_313 dX7_goesElsewhere_103 ?_
        refine r_iload_n (pc := 106) cx dX7_goesElsewhere_106 1 rfl ?_
        refine r_iconst (pc := 107) cx dX7_goesElsewhere_107 ic_3 ?_
        refine r_iand (pc := 108) cx dX7_goesElsewhere_108 ?_
        refine r_iald (pc := 109) cx 2 rfl (ix_and3 _) dX7_goesElsewhere_109 ?_
        refine r_aload_n (pc := 110) cx dX7_goesElsewhere_110 3 rfl ?_
        refine r_get (pc := 111) cx cf_X7 0 1 rfl (by decide) rfl wd_313 dX7_goesElsewhere_111 ?_
        refine r_iload (pc := 114) cx dX7_goesElsewhere_114 0 rfl ?_
        refine r_iconst (pc := 116) cx dX7_goesElsewhere_116 ic_3 ?_
        refine r_iand (pc := 117) cx dX7_goesElsewhere_117 ?_
        refine r_iald (pc := 118) cx 2 rfl (ix_and3 _) dX7_goesElsewhere_118 ?_
        replace hf := bd_of hf
        obtain ⟨r10, hc11, hf⟩ := hf
        refine r_Si (pc := 119) (ws' := [((q 0), ob 6 [.ref (q 1), .ref (q 2), .ref (q 3), .ref (q 4), .int (St_place v), .int (St_steps v)]), ((q 1), aI K 8 (St_registers v)), ((q 2), aI K 4 (St_floats v)), ((q 3), aI K 8 (St_stuckMask v)), ((q 4), aI K 8 (St_stuckOnes v)), ((g 0), ob 3 [.ref (g 1), .ref (g 2), .ref (g 3), .ref (g 4), .ref (g 5), .ref (g 6), .ref (g 7), .ref (g 8), .int (Pg_nameCount pr), .int (Pg_size pr), .int (Pg_lines pr)]), ((g 1), aI K 64 (Pg_code pr)), ((g 2), aI K 64 (Pg_first pr)), ((g 3), aI K 64 (Pg_second pr)), ((g 4), aI K 64 (Pg_third pr)), ((g 5), aI K 8 (Pg_rules pr)), ((g 6), aI K 32 (Pg_data pr)), ((g 7), aI K 140 (Pg_names pr)), ((g 8), aI K 140 (Pg_namedPlaces pr))]) (wc := []) (nn := 0) cx [.int ((St_floats v) ((x2 &&& (3 : Int32))).toNatClampNeg), .int ((St_floats v) ((x3 &&& (3 : Int32))).toNatClampNeg)] [] (m_Fl_isUnder l D K ((St_floats v) ((x2 &&& (3 : Int32))).toNatClampNeg) ((St_floats v) ((x3 &&& (3 : Int32))).toNatClampNeg) hc11) rfl ys_X1_isUnder wd_750 ⟨rfl, rfl⟩ (by decide) (fr_k (fr_k (fr_k (fr_k (fr_k (fr_k (fr_k (fr_k (fr_k (fr_k (fr_k (fr_k (fr_k (fr_k (fr_n))))))))))))))) rfl (by decide) rfl (Nat.le_of_ble_eq_true rfl) dX7_goesElsewhere_119 ?_
        replace hf := chk_of hf
        obtain ⟨h12, hf⟩ := hf
        have hi := inj1 hf
        exact r_zret (pc := 122) cx h12 hi rfl dX7_goesElsewhere_122
      · replace hf := ifn h9 hf
        refine r_tout (pc := 29) (tgt := 123) cx dX7_goesElsewhere_29 (by
          have nh5 := toInt_ne h5
          have mh5 : (15 : Int32).toInt = 15 := by decide
          rw [mh5] at nh5
          have nh7 := toInt_ne h7
          have mh7 : (16 : Int32).toInt = 16 := by decide
          rw [mh7] at nh7
          have nh9 := toInt_ne h9
          have mh9 : (17 : Int32).toInt = 17 := by decide
          rw [mh9] at nh9
          omega) (by decide) ?_
        refine r_iconst (pc := 123) cx dX7_goesElsewhere_123 ic_0 ?_
        have hi := inj1 hf
        exact r_zret (pc := 124) cx (Or.inl rfl) hi rfl dX7_goesElsewhere_124
theorem yv_X7_goesElsewhere : YV yX7_goesElsewhere cX7_goesElsewhere 5 (some .boolean) 1 := ⟨⟨by decide +kernel, by decide +kernel, by decide +kernel⟩, wd_749, wd_96, wd_747, wd_748⟩
