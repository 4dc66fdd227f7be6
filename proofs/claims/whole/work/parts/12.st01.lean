abbrev rm_St_stepOn : Room := { frames := 0, cells := 0, slots := 0, locals := 0 }
set_option maxRecDepth 100000 in
set_option maxHeartbeats 4000000 in
theorem m_St_stepOn (l : Launch) (D : va_G) (K : Nat → ClassId) (q : Nat → Nat) (v : T_St) {o_v : T_St} (hf : f_St_stepOn v = some o_v) : MV l yX7_stepOn cX7_stepOn 1 (none) rm_St_stepOn D K [.ref (q 0)] (cl_St K q v) (cl_St K q o_v) := by
  refine MV_of (loc0 := [(0, .ref (q 0))]) (by decide +kernel) rfl (Nat.le_of_ble_eq_true rfl) ?_
  intro p e s m args below meth c A cx
  unfold f_St_stepOn at hf
  refine r_ws (ws' := [((q 0), ob 6 [.ref (q 1), .ref (q 2), .ref (q 3), .ref (q 4), .int (St_place v), .int (St_steps v)]), ((q 1), aI K 8 (St_registers v)), ((q 2), aI K 4 (St_floats v)), ((q 3), aI K 8 (St_stuckMask v)), ((q 4), aI K 8 (St_stuckOnes v))]) rfl ?_
  refine r_aload_n (pc := 0) cx dX7_stepOn_0 0 rfl ?_
  refine r_aload_n (pc := 1) cx dX7_stepOn_1 0 rfl ?_
  refine r_get (pc := 2) cx cf_X7 0 4 rfl (by decide) rfl wd_317 dX7_stepOn_2 ?_
  refine r_iconst (pc := 5) cx dX7_stepOn_5 ic_1 ?_
  refine r_iadd (pc := 6) cx dX7_stepOn_6 ?_
  refine r_bipush (pc := 7) cx dX7_stepOn_7 bp_63 ?_
  refine r_iand (pc := 9) cx dX7_stepOn_9 ?_
  replace hf := nm_of hf
  obtain ⟨x1, ex1, hf⟩ := hf
  refine r_nm ex1 ?_
  refine r_putI (pc := 10) (ws' := [((q 0), ob 6 [.ref (q 1), .ref (q 2), .ref (q 3), .ref (q 4), .int x1, .int (St_steps v)]), ((q 1), aI K 8 (St_registers v)), ((q 2), aI K 4 (St_floats v)), ((q 3), aI K 8 (St_stuckMask v)), ((q 4), aI K 8 (St_stuckOnes v))]) cx cf_X7 0 4 rfl (by decide) (Nat.le_of_ble_eq_true rfl) rfl pfd_I wd_317 dX7_stepOn_10 rfl ?_
  refine r_aload_n (pc := 13) cx dX7_stepOn_13 0 rfl ?_
  refine r_dup (pc := 14) cx dX7_stepOn_14 rfl ?_
  refine r_get (pc := 15) cx cf_X7 0 5 rfl (by decide) rfl wd_321 dX7_stepOn_15 ?_
  refine r_iconst (pc := 18) cx dX7_stepOn_18 ic_1 ?_
  refine r_iadd (pc := 19) cx dX7_stepOn_19 ?_
  replace hf := nm_of hf
  obtain ⟨x2, ex2, hf⟩ := hf
  refine r_nm ex2 ?_
  refine r_putI (pc := 20) (ws' := [((q 0), ob 6 [.ref (q 1), .ref (q 2), .ref (q 3), .ref (q 4), .int x1, .int x2]), ((q 1), aI K 8 (St_registers v)), ((q 2), aI K 4 (St_floats v)), ((q 3), aI K 8 (St_stuckMask v)), ((q 4), aI K 8 (St_stuckOnes v))]) cx cf_X7 0 5 rfl (by decide) (Nat.le_of_ble_eq_true rfl) rfl pfd_I wd_321 dX7_stepOn_20 rfl ?_
  have hi := inj1 hf
  exact r_vret (pc := 23) cx (by rw [← hi]; (try simp only [cl_St, St_registers_mk, St_floats_mk, St_stuckMask_mk, St_stuckOnes_mk, St_place_mk, St_steps_mk, List.cons_append, List.nil_append, List.append_nil]) <;> rfl) dX7_stepOn_23
theorem yv_X7_stepOn : YV yX7_stepOn cX7_stepOn 1 (none) 0 := ⟨⟨by decide +kernel, by decide +kernel, by decide +kernel⟩, wd_804, wd_96, wd_802, wd_803⟩
abbrev rm_St_stepTo : Room := { frames := 0, cells := 0, slots := 0, locals := 0 }
set_option maxRecDepth 100000 in
set_option maxHeartbeats 4000000 in
theorem m_St_stepTo (l : Launch) (D : va_G) (K : Nat → ClassId) (q : Nat → Nat) (v : T_St) (g : Nat → Nat) (pr : T_Pg) (a2 : Int32) {o_v : T_St} (hf : f_St_stepTo v pr a2 = some o_v) : MV l yX7_stepTo cX7_stepTo 3 (none) rm_St_stepTo D K [.ref (q 0), .ref (g 0), .int a2] (cl_St K q v ++ (cl_Pg K g pr)) (cl_St K q o_v ++ (cl_Pg K g pr)) := by
  refine MV_of (loc0 := [(0, .ref (q 0)), (1, .ref (g 0)), (2, .int a2)]) (by decide +kernel) rfl (Nat.le_of_ble_eq_true rfl) ?_
  intro p e s m args below meth c A cx
  unfold f_St_stepTo at hf
  refine r_ws (ws' := [((q 0), ob 6 [.ref (q 1), .ref (q 2), .ref (q 3), .ref (q 4), .int (St_place v), .int (St_steps v)]), ((q 1), aI K 8 (St_registers v)), ((q 2), aI K 4 (St_floats v)), ((q 3), aI K 8 (St_stuckMask v)), ((q 4), aI K 8 (St_stuckOnes v)), ((g 0), ob 3 [.ref (g 1), .ref (g 2), .ref (g 3), .ref (g 4), .ref (g 5), .ref (g 6), .ref (g 7), .ref (g 8), .int (Pg_nameCount pr), .int (Pg_size pr), .int (Pg_lines pr)]), ((g 1), aI K 64 (Pg_code pr)), ((g 2), aI K 64 (Pg_first pr)), ((g 3), aI K 64 (Pg_second pr)), ((g 4), aI K 64 (Pg_third pr)), ((g 5), aI K 8 (Pg_rules pr)), ((g 6), aI K 32 (Pg_data pr)), ((g 7), aI K 140 (Pg_names pr)), ((g 8), aI K 140 (Pg_namedPlaces pr))]) rfl ?_
  refine r_aload_n (pc := 0) cx dX7_stepTo_0 0 rfl ?_
  refine r_iload_n (pc := 1) cx dX7_stepTo_1 2 rfl ?_
  replace hf := nm_of hf
  obtain ⟨J2, eJ2, hf⟩ := hf
  have hJ2 : ∀ (y1 : Int32), J2 y1 = some o_v → WW p l e rm_St_stepTo s m args below meth c D A 3 0 0 (MQ below (QV D K A (cl_St K q o_v ++ (cl_Pg K g pr))) args s 0 0 A) ([((q 0), ob 6 [.ref (q 1), .ref (q 2), .ref (q 3), .ref (q 4), .int (St_place v), .int (St_steps v)]), ((q 1), aI K 8 (St_registers v)), ((q 2), aI K 4 (St_floats v)), ((q 3), aI K 8 (St_stuckMask v)), ((q 4), aI K 8 (St_stuckOnes v)), ((g 0), ob 3 [.ref (g 1), .ref (g 2), .ref (g 3), .ref (g 4), .ref (g 5), .ref (g 6), .ref (g 7), .ref (g 8), .int (Pg_nameCount pr), .int (Pg_size pr), .int (Pg_lines pr)]), ((g 1), aI K 64 (Pg_code pr)), ((g 2), aI K 64 (Pg_first pr)), ((g 3), aI K 64 (Pg_second pr)), ((g 4), aI K 64 (Pg_third pr)), ((g 5), aI K 8 (Pg_rules pr)), ((g 6), aI K 32 (Pg_data pr)), ((g 7), aI K 140 (Pg_names pr)), ((g 8), aI K 140 (Pg_namedPlaces pr))]) ([(0, .ref (q 0))]) ([.int y1, .ref (q 0)]) 26 := by
    clear hf
    intro y1 hf
    rw [eJ2] at hf
    refine r_bipush (pc := 26) cx dX7_stepTo_26 bp_63 ?_
    refine r_iand (pc := 28) cx dX7_stepTo_28 ?_
    replace hf := nm_of hf
    obtain ⟨x3, ex3, hf⟩ := hf
    refine r_nm ex3 ?_
    refine r_putI (pc := 29) (ws' := [((q 0), ob 6 [.ref (q 1), .ref (q 2), .ref (q 3), .ref (q 4), .int x3, .int (St_steps v)]), ((q 1), aI K 8 (St_registers v)), ((q 2), aI K 4 (St_floats v)), ((q 3), aI K 8 (St_stuckMask v)), ((q 4), aI K 8 (St_stuckOnes v)), ((g 0), ob 3 [.ref (g 1), .ref (g 2), .ref (g 3), .ref (g 4), .ref (g 5), .ref (g 6), .ref (g 7), .ref (g 8), .int (Pg_nameCount pr), .int (Pg_size pr), .int (Pg_lines pr)]), ((g 1), aI K 64 (Pg_code pr)), ((g 2), aI K 64 (Pg_first pr)), ((g 3), aI K 64 (Pg_second pr)), ((g 4), aI K 64 (Pg_third pr)), ((g 5), aI K 8 (Pg_rules pr)), ((g 6), aI K 32 (Pg_data pr)), ((g 7), aI K 140 (Pg_names pr)), ((g 8), aI K 140 (Pg_namedPlaces pr))]) cx cf_X7 0 4 rfl (by decide) (Nat.le_of_ble_eq_true rfl) rfl pfd_I wd_317 dX7_stepTo_29 rfl ?_
    refine r_aload_n (pc := 32) cx dX7_stepTo_32 0 rfl ?_
    refine r_dup (pc := 33) cx dX7_stepTo_33 rfl ?_
    refine r_get (pc := 34) cx cf_X7 0 5 rfl (by decide) rfl wd_321 dX7_stepTo_34 ?_
    refine r_iconst (pc := 37) cx dX7_stepTo_37 ic_1 ?_
    refine r_iadd (pc := 38) cx dX7_stepTo_38 ?_
    replace hf := nm_of hf
    obtain ⟨x4, ex4, hf⟩ := hf
    refine r_nm ex4 ?_
    refine r_putI (pc := 39) (ws' := [((q 0), ob 6 [.ref (q 1), .ref (q 2), .ref (q 3), .ref (q 4), .int x3, .int x4]), ((q 1), aI K 8 (St_registers v)), ((q 2), aI K 4 (St_floats v)), ((q 3), aI K 8 (St_stuckMask v)), ((q 4), aI K 8 (St_stuckOnes v)), ((g 0), ob 3 [.ref (g 1), .ref (g 2), .ref (g 3), .ref (g 4), .ref (g 5), .ref (g 6), .ref (g 7), .ref (g 8), .int (Pg_nameCount pr), .int (Pg_size pr), .int (Pg_lines pr)]), ((g 1), aI K 64 (Pg_code pr)), ((g 2), aI K 64 (Pg_first pr)), ((g 3), aI K 64 (Pg_second pr)), ((g 4), aI K 64 (Pg_third pr)), ((g 5), aI K 8 (Pg_rules pr)), ((g 6), aI K 32 (Pg_data pr)), ((g 7), aI K 140 (Pg_names pr)), ((g 8), aI K 140 (Pg_namedPlaces pr))]) cx cf_X7 0 5 rfl (by decide) (Nat.le_of_ble_eq_true rfl) rfl pfd_I wd_321 dX7_stepTo_39 rfl ?_
    have hi := inj1 hf
    exact r_vret (pc := 42) cx (by rw [← hi]; (try simp only [cl_St, St_registers_mk, St_floats_mk, St_stuckMask_mk, St_stuckOnes_mk, St_place_mk, St_steps_mk, cl_Pg, Pg_code_mk, Pg_first_mk, Pg_second_mk, Pg_third_mk, Pg_rules_mk, Pg_data_mk, Pg_names_mk, Pg_namedPlaces_mk, Pg_nameCount_mk, Pg_size_mk, Pg_lines_mk, List.cons_append, List.nil_append, List.append_nil]) <;> rfl) dX7_stepTo_42
  refine r_if_eq (pc := 2) (tgt := 20) cx dX7_stepTo_2 (by decide) (fun h5 => ?_) (fun h5 => ?_)
  · replace hf := ifp h5 hf
    refine r_aload_n (pc := 20) cx dX7_stepTo_20 0 rfl ?_
    refine r_get (pc := 21) cx cf_X7 0 4 rfl (by decide) rfl wd_317 dX7_stepTo_21 ?_
    refine r_iconst (pc := 24) cx dX7_stepTo_24 ic_1 ?_
    refine r_iadd (pc := 25) cx dX7_stepTo_25 ?_
    refine r_loc (loc' := [(0, .ref (q 0))]) [0] rfl ?_
    exact hJ2 _ hf
  · replace hf := ifn h5 hf
    refine r_aload_n (pc := 5) cx dX7_stepTo_5 1 rfl ?_
    refine r_get (pc := 6) cx cf_X4 5 3 rfl (by decide) rfl wd_143 dX7_stepTo_6 ?_
    refine r_aload_n (pc := 9) cx dX7_stepTo_9 0 rfl ?_
    refine r_get (pc := 10) cx cf_X7 0 4 rfl (by decide) rfl wd_317 dX7_stepTo_10 ?_
    refine r_bipush (pc := 13) cx dX7_stepTo_13 bp_63 ?_
    refine r_iand (pc := 15) cx dX7_stepTo_15 ?_
    refine r_iald (pc := 16) cx 9 rfl (ix_and63 _) dX7_stepTo_16 ?_
    refine r_goto (pc := 17) (tgt := 26) cx dX7_stepTo_17 (by decide) ?_
    refine r_loc (loc' := [(0, .ref (q 0))]) [0] rfl ?_
    exact hJ2 _ hf
theorem yv_X7_stepTo : YV yX7_stepTo cX7_stepTo 3 (none) 2 := ⟨⟨by decide +kernel, by decide +kernel, by decide +kernel⟩, wd_812, wd_96, wd_810, wd_811⟩
abbrev rm_St_stepLoading : Room := { frames := 1, cells := 0, slots := 0, locals := 23 }
set_option maxRecDepth 100000 in
set_option maxHeartbeats 4000000 in
theorem m_St_stepLoading (l : Launch) (D : va_G) (K : Nat → ClassId) (q : Nat → Nat) (v : T_St) (g : Nat → Nat) (pr : T_Pg) (a2 : Int32) {o_v : T_St} (hf : f_St_stepLoading v pr a2 = some o_v) : MV l yX7_stepLoading cX7_stepLoading 3 (none) rm_St_stepLoading D K [.ref (q 0), .ref (g 0), .int a2] (cl_St K q v ++ (cl_Pg K g pr)) (cl_St K q o_v ++ (cl_Pg K g pr)) := by
  refine MV_of (loc0 := [(0, .ref (q 0)), (1, .ref (g 0)), (2, .int a2)]) (by decide +kernel) rfl (Nat.le_of_ble_eq_true rfl) ?_
  intro p e s m args below meth c A cx
  unfold f_St_stepLoading at hf
  refine r_ws (ws' := [((q 0), ob 6 [.ref (q 1), .ref (q 2), .ref (q 3), .ref (q 4), .int (St_place v), .int (St_steps v)]), ((q 1), aI K 8 (St_registers v)), ((q 2), aI K 4 (St_floats v)), ((q 3), aI K 8 (St_stuckMask v)), ((q 4), aI K 8 (St_stuckOnes v)), ((g 0), ob 3 [.ref (g 1), .ref (g 2), .ref (g 3), .ref (g 4), .ref (g 5), .ref (g 6), .ref (g 7), .ref (g 8), .int (Pg_nameCount pr), .int (Pg_size pr), .int (Pg_lines pr)]), ((g 1), aI K 64 (Pg_code pr)), ((g 2), aI K 64 (Pg_first pr)), ((g 3), aI K 64 (Pg_second pr)), ((g 4), aI K 64 (Pg_third pr)), ((g 5), aI K 8 (Pg_rules pr)), ((g 6), aI K 32 (Pg_data pr)), ((g 7), aI K 140 (Pg_names pr)), ((g 8), aI K 140 (Pg_namedPlaces pr))]) rfl ?_
  refine r_aload_n (pc := 0) cx dX7_stepLoading_0 0 rfl ?_
  refine r_aload_n (pc := 1) cx dX7_stepLoading_1 1 rfl ?_
  refine r_get (pc := 2) cx cf_X4 5 1 rfl (by decide) rfl wd_138 dX7_stepLoading_2 ?_
  refine r_aload_n (pc := 5) cx dX7_stepLoading_5 0 rfl ?_
  refine r_get (pc := 6) cx cf_X7 0 4 rfl (by decide) rfl wd_317 dX7_stepLoading_6 ?_
  refine r_bipush (pc := 9) cx dX7_stepLoading_9 bp_63 ?_
  refine r_iand (pc := 11) cx dX7_stepLoading_11 ?_
  refine r_iald (pc := 12) cx 7 rfl (ix_and63 _) dX7_stepLoading_12 ?_
  refine r_iload_n (pc := 13) cx dX7_stepLoading_13 2 rfl ?_
  replace hf := bd_of hf
  obtain ⟨v1, hc2, hf⟩ := hf
  refine r_Vv (pc := 14) (ws' := [((q 0), ob 6 [.ref (q 1), .ref (q 2), .ref (q 3), .ref (q 4), .int (St_place v1), .int (St_steps v1)]), ((q 1), aI K 8 (St_registers v1)), ((q 2), aI K 4 (St_floats v1)), ((q 3), aI K 8 (St_stuckMask v1)), ((q 4), aI K 8 (St_stuckOnes v1)), ((g 0), ob 3 [.ref (g 1), .ref (g 2), .ref (g 3), .ref (g 4), .ref (g 5), .ref (g 6), .ref (g 7), .ref (g 8), .int (Pg_nameCount pr), .int (Pg_size pr), .int (Pg_lines pr)]), ((g 1), aI K 64 (Pg_code pr)), ((g 2), aI K 64 (Pg_first pr)), ((g 3), aI K 64 (Pg_second pr)), ((g 4), aI K 64 (Pg_third pr)), ((g 5), aI K 8 (Pg_rules pr)), ((g 6), aI K 32 (Pg_data pr)), ((g 7), aI K 140 (Pg_names pr)), ((g 8), aI K 140 (Pg_namedPlaces pr))]) (wc := [((q 0), ob 6 [.ref (q 1), .ref (q 2), .ref (q 3), .ref (q 4), .int (St_place v), .int (St_steps v)]), ((q 1), aI K 8 (St_registers v)), ((q 2), aI K 4 (St_floats v)), ((q 3), aI K 8 (St_stuckMask v)), ((q 4), aI K 8 (St_stuckOnes v))]) (nn := 5) cx [.int ((Pg_first pr) (((St_place v) &&& (63 : Int32))).toNatClampNeg), .int a2] [] (m_St_lay l D K q v ((Pg_first pr) (((St_place v) &&& (63 : Int32))).toNatClampNeg) a2 hc2) rfl yv_X7_lay wd_797 ⟨rfl, rfl⟩ (by decide) (fr_s (j := 0) rfl rfl rfl (fr_s (j := 1) rfl rfl rfl (fr_s (j := 2) rfl rfl rfl (fr_s (j := 3) rfl rfl rfl (fr_s (j := 4) rfl rfl rfl (fr_k (fr_k (fr_k (fr_k (fr_k (fr_k (fr_k (fr_k (fr_k (fr_n))))))))))))))) rfl (by decide) 0 rfl rfl rfl (Nat.le_of_ble_eq_true rfl) dX7_stepLoading_14 ?_
  refine r_aload_n (pc := 17) cx dX7_stepLoading_17 0 rfl ?_
  replace hf := bd_of hf
  obtain ⟨v3, hc4, hf⟩ := hf
  refine r_Vv (pc := 18) (ws' := [((q 0), ob 6 [.ref (q 1), .ref (q 2), .ref (q 3), .ref (q 4), .int (St_place v3), .int (St_steps v3)]), ((q 1), aI K 8 (St_registers v3)), ((q 2), aI K 4 (St_floats v3)), ((q 3), aI K 8 (St_stuckMask v3)), ((q 4), aI K 8 (St_stuckOnes v3)), ((g 0), ob 3 [.ref (g 1), .ref (g 2), .ref (g 3), .ref (g 4), .ref (g 5), .ref (g 6), .ref (g 7), .ref (g 8), .int (Pg_nameCount pr), .int (Pg_size pr), .int (Pg_lines pr)]), ((g 1), aI K 64 (Pg_code pr)), ((g 2), aI K 64 (Pg_first pr)), ((g 3), aI K 64 (Pg_second pr)), ((g 4), aI K 64 (Pg_third pr)), ((g 5), aI K 8 (Pg_rules pr)), ((g 6), aI K 32 (Pg_data pr)), ((g 7), aI K 140 (Pg_names pr)), ((g 8), aI K 140 (Pg_namedPlaces pr))]) (wc := [((q 0), ob 6 [.ref (q 1), .ref (q 2), .ref (q 3), .ref (q 4), .int (St_place v1), .int (St_steps v1)]), ((q 1), aI K 8 (St_registers v1)), ((q 2), aI K 4 (St_floats v1)), ((q 3), aI K 8 (St_stuckMask v1)), ((q 4), aI K 8 (St_stuckOnes v1))]) (nn := 5) cx [] [] (m_St_stepOn l D K q v1 hc4) rfl yv_X7_stepOn wd_801 ⟨rfl, rfl⟩ (by decide) (fr_s (j := 0) rfl rfl rfl (fr_s (j := 1) rfl rfl rfl (fr_s (j := 2) rfl rfl rfl (fr_s (j := 3) rfl rfl rfl (fr_s (j := 4) rfl rfl rfl (fr_k (fr_k (fr_k (fr_k (fr_k (fr_k (fr_k (fr_k (fr_k (fr_n))))))))))))))) rfl (by decide) 0 rfl rfl rfl (Nat.le_of_ble_eq_true rfl) dX7_stepLoading_18 ?_
  have hi := inj1 hf
  exact r_vret (pc := 21) cx (by rw [← hi]; rfl) dX7_stepLoading_21
theorem yv_X7_stepLoading : YV yX7_stepLoading cX7_stepLoading 3 (none) 2 := ⟨⟨by decide +kernel, by decide +kernel, by decide +kernel⟩, wd_796, wd_96, wd_794, wd_795⟩
abbrev rm_St_stepWithin : Room := { frames := 4, cells := 0, slots := 0, locals := 107 }
set_option maxRecDepth 100000 in
set_option maxHeartbeats 4000000 in
theorem m_St_stepWithin (l : Launch) (D : va_G) (K : Nat → ClassId) (q : Nat → Nat) (v : T_St) (g : Nat → Nat) (pr : T_Pg) {o_v : T_St} (hf : f_St_stepWithin v pr = some o_v) : MV l yX7_stepWithin cX7_stepWithin 6 (none) rm_St_stepWithin D K [.ref (q 0), .ref (g 0)] (cl_St K q v ++ (cl_Pg K g pr)) (cl_St K q o_v ++ (cl_Pg K g pr)) := by
  refine MV_of (loc0 := [(0, .ref (q 0)), (1, .ref (g 0))]) (by decide +kernel) rfl (Nat.le_of_ble_eq_true rfl) ?_
  intro p e s m args below meth c A cx
  unfold f_St_stepWithin at hf
  refine r_ws (ws' := [((q 0), ob 6 [.ref (q 1), .ref (q 2), .ref (q 3), .ref (q 4), .int (St_place v), .int (St_steps v)]), ((q 1), aI K 8 (St_registers v)), ((q 2), aI K 4 (St_floats v)), ((q 3), aI K 8 (St_stuckMask v)), ((q 4), aI K 8 (St_stuckOnes v)), ((g 0), ob 3 [.ref (g 1), .ref (g 2), .ref (g 3), .ref (g 4), .ref (g 5), .ref (g 6), .ref (g 7), .ref (g 8), .int (Pg_nameCount pr), .int (Pg_size pr), .int (Pg_lines pr)]), ((g 1), aI K 64 (Pg_code pr)), ((g 2), aI K 64 (Pg_first pr)), ((g 3), aI K 64 (Pg_second pr)), ((g 4), aI K 64 (Pg_third pr)), ((g 5), aI K 8 (Pg_rules pr)), ((g 6), aI K 32 (Pg_data pr)), ((g 7), aI K 140 (Pg_names pr)), ((g 8), aI K 140 (Pg_namedPlaces pr))]) rfl ?_
  refine r_aload_n (pc := 0) cx dX7_stepWithin_0 0 rfl ?_
  refine r_get (pc := 1) cx cf_X7 0 4 rfl (by decide) rfl wd_317 dX7_stepWithin_1 ?_
  refine r_bipush (pc := 4) cx dX7_stepWithin_4 bp_63 ?_
  refine r_iand (pc := 6) cx dX7_stepWithin_6 ?_
  replace hf := nm_of hf
  obtain ⟨x1, ex1, hf⟩ := hf
  refine r_nm ex1 ?_
  refine r_istore_n (pc := 7) (loc' := [(2, .int x1), (0, .ref (q 0)), (1, .ref (g 0))]) cx dX7_stepWithin_7 rfl (by decide) rfl ?_
  refine r_aload_n (pc := 8) cx dX7_stepWithin_8 2 rfl ?_
  refine r_get (pc := 9) cx cf_X4 5 1 rfl (by decide) rfl wd_138 dX7_stepWithin_9 ?_
  refine r_iload_n (pc := 12) cx dX7_stepWithin_12 0 rfl ?_
  refine r_iald (pc := 13) cx 7 rfl (by rw [ex1]; exact ix_and63 _) dX7_stepWithin_13 ?_
  replace hf := nm_of hf
  obtain ⟨x2, ex2, hf⟩ := hf
  refine r_nm ex2 ?_
  refine r_istore_n (pc := 14) (loc' := [(3, .int x2), (2, .int x1), (0, .ref (q 0)), (1, .ref (g 0))]) cx dX7_stepWithin_14 rfl (by decide) rfl ?_
  refine r_aload_n (pc := 15) cx dX7_stepWithin_15 3 rfl ?_
  refine r_get (pc := 16) cx cf_X4 5 2 rfl (by decide) rfl wd_140 dX7_stepWithin_16 ?_
  refine r_iload_n (pc := 19) cx dX7_stepWithin_19 1 rfl ?_
  refine r_iald (pc := 20) cx 8 rfl (by rw [ex1]; exact ix_and63 _) dX7_stepWithin_20 ?_
  replace hf := nm_of hf
  obtain ⟨x3, ex3, hf⟩ := hf
  refine r_nm ex3 ?_
  refine r_istore (pc := 21) (loc' := [(4, .int x3), (3, .int x2), (2, .int x1), (0, .ref (q 0)), (1, .ref (g 0))]) cx dX7_stepWithin_21 (by decide) rfl ?_
  refine r_aload_n (pc := 23) cx dX7_stepWithin_23 4 rfl ?_
  refine r_get (pc := 24) cx cf_X4 5 3 rfl (by decide) rfl wd_143 dX7_stepWithin_24 ?_
  refine r_iload_n (pc := 27) cx dX7_stepWithin_27 2 rfl ?_
  refine r_iald (pc := 28) cx 9 rfl (by rw [ex1]; exact ix_and63 _) dX7_stepWithin_28 ?_
  replace hf := nm_of hf
  obtain ⟨x4, ex4, hf⟩ := hf
  refine r_nm ex4 ?_
  refine r_istore (pc := 29) (loc' := [(5, .int x4), (4, .int x3), (3, .int x2), (2, .int x1), (0, .ref (q 0)), (1, .ref (g 0))]) cx dX7_stepWithin_29 (by decide) rfl ?_
  refine r_aload_n (pc := 31) cx dX7_stepWithin_31 5 rfl ?_
  refine r_get (pc := 32) cx cf_X4 5 0 rfl (by decide) rfl wd_136 dX7_stepWithin_32 ?_
  refine r_iload_n (pc := 35) cx dX7_stepWithin_35 3 rfl ?_
  refine r_iald (pc := 36) cx 6 rfl (by rw [ex1]; exact ix_and63 _) dX7_stepWithin_36 ?_
  replace hf := nm_of hf
  obtain ⟨x5, ex5, hf⟩ := hf
  refine r_nm ex5 ?_
  replace hf := nm_of hf
  obtain ⟨J7, eJ7, hf⟩ := hf
  have hJ7 : ∀ (v6 : T_St), J7 v6 = some o_v → WW p l e rm_St_stepWithin s m args below meth c D A 6 0 0 (MQ below (QV D K A (cl_St K q o_v ++ (cl_Pg K g pr))) args s 0 0 A) ([((q 0), ob 6 [.ref (q 1), .ref (q 2), .ref (q 3), .ref (q 4), .int (St_place v6), .int (St_steps v6)]), ((q 1), aI K 8 (St_registers v6)), ((q 2), aI K 4 (St_floats v6)), ((q 3), aI K 8 (St_stuckMask v6)), ((q 4), aI K 8 (St_stuckOnes v6)), ((g 0), ob 3 [.ref (g 1), .ref (g 2), .ref (g 3), .ref (g 4), .ref (g 5), .ref (g 6), .ref (g 7), .ref (g 8), .int (Pg_nameCount pr), .int (Pg_size pr), .int (Pg_lines pr)]), ((g 1), aI K 64 (Pg_code pr)), ((g 2), aI K 64 (Pg_first pr)), ((g 3), aI K 64 (Pg_second pr)), ((g 4), aI K 64 (Pg_third pr)), ((g 5), aI K 8 (Pg_rules pr)), ((g 6), aI K 32 (Pg_data pr)), ((g 7), aI K 140 (Pg_names pr)), ((g 8), aI K 140 (Pg_namedPlaces pr))]) ([(0, .ref (q 0)), (1, .ref (g 0)), (2, .int x1)]) ([]) 355 := by
    clear hf
    intro v6 hf
    rw [eJ7] at hf
    refine r_aload_n (pc := 355) cx dX7_stepWithin_355 0 rfl ?_
    refine r_aload_n (pc := 356) cx dX7_stepWithin_356 1 rfl ?_
    refine r_aload_n (pc := 357) cx dX7_stepWithin_357 1 rfl ?_
    refine r_get (pc := 358) cx cf_X4 5 0 rfl (by decide) rfl wd_136 dX7_stepWithin_358 ?_
    refine r_iload_n (pc := 361) cx dX7_stepWithin_361 2 rfl ?_
    refine r_iald (pc := 362) cx 6 rfl (by rw [ex1]; exact ix_and63 _) dX7_stepWithin_362 ?_
    refine r_bipush (pc := 363) cx dX7_stepWithin_363 bp_14 ?_
    refine r_icmp_ne (pc := 365) (tgt := 372) cx dX7_stepWithin_365 (by decide) (fun h8 => ?_) (fun h8 => ?_)
    · replace hf := ifn h8 hf
      refine r_iconst (pc := 372) cx dX7_stepWithin_372 ic_0 ?_
      replace hf := bd_of hf
      obtain ⟨v9, hc10, hf⟩ := hf
      refine r_Vv (pc := 373) (ws' := [((q 0), ob 6 [.ref (q 1), .ref (q 2), .ref (q 3), .ref (q 4), .int (St_place v9), .int (St_steps v9)]), ((q 1), aI K 8 (St_registers v9)), ((q 2), aI K 4 (St_floats v9)), ((q 3), aI K 8 (St_stuckMask v9)), ((q 4), aI K 8 (St_stuckOnes v9)), ((g 0), ob 3 [.ref (g 1), .ref (g 2), .ref (g 3), .ref (g 4), .ref (g 5), .ref (g 6), .ref (g 7), .ref (g 8), .int (Pg_nameCount pr), .int (Pg_size pr), .int (Pg_lines pr)]), ((g 1), aI K 64 (Pg_code pr)), ((g 2), aI K 64 (Pg_first pr)), ((g 3), aI K 64 (Pg_second pr)), ((g 4), aI K 64 (Pg_third pr)), ((g 5), aI K 8 (Pg_rules pr)), ((g 6), aI K 32 (Pg_data pr)), ((g 7), aI K 140 (Pg_names pr)), ((g 8), aI K 140 (Pg_namedPlaces pr))]) (wc := [((q 0), ob 6 [.ref (q 1), .ref (q 2), .ref (q 3), .ref (q 4), .int (St_place v6), .int (St_steps v6)]), ((q 1), aI K 8 (St_registers v6)), ((q 2), aI K 4 (St_floats v6)), ((q 3), aI K 8 (St_stuckMask v6)), ((q 4), aI K 8 (St_stuckOnes v6)), ((g 0), ob 3 [.ref (g 1), .ref (g 2), .ref (g 3), .ref (g 4), .ref (g 5), .ref (g 6), .ref (g 7), .ref (g 8), .int (Pg_nameCount pr), .int (Pg_size pr), .int (Pg_lines pr)]), ((g 1), aI K 64 (Pg_code pr)), ((g 2), aI K 64 (Pg_first pr)), ((g 3), aI K 64 (Pg_second pr)), ((g 4), aI K 64 (Pg_third pr)), ((g 5), aI K 8 (Pg_rules pr)), ((g 6), aI K 32 (Pg_data pr)), ((g 7), aI K 140 (Pg_names pr)), ((g 8), aI K 140 (Pg_namedPlaces pr))]) (nn := 14) cx [.ref (g 0), .int (0 : Int32)] [] (m_St_stepTo l D K q v6 g pr (0 : Int32) hc10) rfl yv_X7_stepTo wd_866 ⟨rfl, rfl⟩ (by decide) (fr_s (j := 0) rfl rfl rfl (fr_s (j := 1) rfl rfl rfl (fr_s (j := 2) rfl rfl rfl (fr_s (j := 3) rfl rfl rfl (fr_s (j := 4) rfl rfl rfl (fr_s (j := 5) rfl rfl rfl (fr_s (j := 6) rfl rfl rfl (fr_s (j := 7) rfl rfl rfl (fr_s (j := 8) rfl rfl rfl (fr_s (j := 9) rfl rfl rfl (fr_s (j := 10) rfl rfl rfl (fr_s (j := 11) rfl rfl rfl (fr_s (j := 12) rfl rfl rfl (fr_s (j := 13) rfl rfl rfl (fr_n))))))))))))))) rfl (by decide) 0 rfl rfl rfl (Nat.le_of_ble_eq_true rfl) dX7_stepWithin_373 ?_
      have hi := inj1 hf
      exact r_vret (pc := 376) cx (by rw [← hi]; rfl) dX7_stepWithin_376
    · replace hf := ifp h8 hf
      refine r_iconst (pc := 368) cx dX7_stepWithin_368 ic_1 ?_
      refine r_goto (pc := 369) (tgt := 373) cx dX7_stepWithin_369 (by decide) ?_
      replace hf := bd_of hf
      obtain ⟨v11, hc12, hf⟩ := hf
      refine r_Vv (pc := 373) (ws' := [((q 0), ob 6 [.ref (q 1), .ref (q 2), .ref (q 3), .ref (q 4), .int (St_place v11), .int (St_steps v11)]), ((q 1), aI K 8 (St_registers v11)), ((q 2), aI K 4 (St_floats v11)), ((q 3), aI K 8 (St_stuckMask v11)), ((q 4), aI K 8 (St_stuckOnes v11)), ((g 0), ob 3 [.ref (g 1), .ref (g 2), .ref (g 3), .ref (g 4), .ref (g 5), .ref (g 6), .ref (g 7), .ref (g 8), .int (Pg_nameCount pr), .int (Pg_size pr), .int (Pg_lines pr)]), ((g 1), aI K 64 (Pg_code pr)), ((g 2), aI K 64 (Pg_first pr)), ((g 3), aI K 64 (Pg_second pr)), ((g 4), aI K 64 (Pg_third pr)), ((g 5), aI K 8 (Pg_rules pr)), ((g 6), aI K 32 (Pg_data pr)), ((g 7), aI K 140 (Pg_names pr)), ((g 8), aI K 140 (Pg_namedPlaces pr))]) (wc := [((q 0), ob 6 [.ref (q 1), .ref (q 2), .ref (q 3), .ref (q 4), .int (St_place v6), .int (St_steps v6)]), ((q 1), aI K 8 (St_registers v6)), ((q 2), aI K 4 (St_floats v6)), ((q 3), aI K 8 (St_stuckMask v6)), ((q 4), aI K 8 (St_stuckOnes v6)), ((g 0), ob 3 [.ref (g 1), .ref (g 2), .ref (g 3), .ref (g 4), .ref (g 5), .ref (g 6), .ref (g 7), .ref (g 8), .int (Pg_nameCount pr), .int (Pg_size pr), .int (Pg_lines pr)]), ((g 1), aI K 64 (Pg_code pr)), ((g 2), aI K 64 (Pg_first pr)), ((g 3), aI K 64 (Pg_second pr)), ((g 4), aI K 64 (Pg_third pr)), ((g 5), aI K 8 (Pg_rules pr)), ((g 6), aI K 32 (Pg_data pr)), ((g 7), aI K 140 (Pg_names pr)), ((g 8), aI K 140 (Pg_namedPlaces pr))]) (nn := 14) cx [.ref (g 0), .int (1 : Int32)] [] (m_St_stepTo l D K q v6 g pr (1 : Int32) hc12) rfl yv_X7_stepTo wd_866 ⟨rfl, rfl⟩ (by decide) (fr_s (j := 0) rfl rfl rfl (fr_s (j := 1) rfl rfl rfl (fr_s (j := 2) rfl rfl rfl (fr_s (j := 3) rfl rfl rfl (fr_s (j := 4) rfl rfl rfl (fr_s (j := 5) rfl rfl rfl (fr_s (j := 6) rfl rfl rfl (fr_s (j := 7) rfl rfl rfl (fr_s (j := 8) rfl rfl rfl (fr_s (j := 9) rfl rfl rfl (fr_s (j := 10) rfl rfl rfl (fr_s (j := 11) rfl rfl rfl (fr_s (j := 12) rfl rfl rfl (fr_s (j := 13) rfl rfl rfl (fr_n))))))))))))))) rfl (by decide) 0 rfl rfl rfl (Nat.le_of_ble_eq_true rfl) dX7_stepWithin_373 ?_
      have hi := inj1 hf
      exact r_vret (pc := 376) cx (by rw [← hi]; rfl) dX7_stepWithin_376
  by_cases h13 : x5 = (1 : Int32)
  · replace hf := ifp h13 hf
    refine r_tin (pc := 37) (tgt := 104) cx (1 : Int32) h13 dX7_stepWithin_37 (by decide) (by decide) rfl (by decide) ?_
    refine r_aload_n (pc := 104) cx dX7_stepWithin_104 4 rfl ?_
    refine r_iload_n (pc := 105) cx dX7_stepWithin_105 2 rfl ?_
    refine r_iload (pc := 106) cx dX7_stepWithin_106 1 rfl ?_
    replace hf := bd_of hf
    obtain ⟨v14, hc15, hf⟩ := hf
    refine r_Vv (pc := 108) (ws' := [((q 0), ob 6 [.ref (q 1), .ref (q 2), .ref (q 3), .ref (q 4), .int (St_place v14), .int (St_steps v14)]), ((q 1), aI K 8 (St_registers v14)), ((q 2), aI K 4 (St_floats v14)), ((q 3), aI K 8 (St_stuckMask v14)), ((q 4), aI K 8 (St_stuckOnes v14)), ((g 0), ob 3 [.ref (g 1), .ref (g 2), .ref (g 3), .ref (g 4), .ref (g 5), .ref (g 6), .ref (g 7), .ref (g 8), .int (Pg_nameCount pr), .int (Pg_size pr), .int (Pg_lines pr)]), ((g 1), aI K 64 (Pg_code pr)), ((g 2), aI K 64 (Pg_first pr)), ((g 3), aI K 64 (Pg_second pr)), ((g 4), aI K 64 (Pg_third pr)), ((g 5), aI K 8 (Pg_rules pr)), ((g 6), aI K 32 (Pg_data pr)), ((g 7), aI K 140 (Pg_names pr)), ((g 8), aI K 140 (Pg_namedPlaces pr))]) (wc := [((q 0), ob 6 [.ref (q 1), .ref (q 2), .ref (q 3), .ref (q 4), .int (St_place v), .int (St_steps v)]), ((q 1), aI K 8 (St_registers v)), ((q 2), aI K 4 (St_floats v)), ((q 3), aI K 8 (St_stuckMask v)), ((q 4), aI K 8 (St_stuckOnes v))]) (nn := 5) cx [.int x2, .int x3] [] (m_St_lay l D K q v x2 x3 hc15) rfl yv_X7_lay wd_797 ⟨rfl, rfl⟩ (by decide) (fr_s (j := 0) rfl rfl rfl (fr_s (j := 1) rfl rfl rfl (fr_s (j := 2) rfl rfl rfl (fr_s (j := 3) rfl rfl rfl (fr_s (j := 4) rfl rfl rfl (fr_k (fr_k (fr_k (fr_k (fr_k (fr_k (fr_k (fr_k (fr_k (fr_n))))))))))))))) rfl (by decide) 0 rfl rfl rfl (Nat.le_of_ble_eq_true rfl) dX7_stepWithin_108 ?_
    refine r_goto (pc := 111) (tgt := 355) cx dX7_stepWithin_111 (by decide) ?_
    refine r_loc (loc' := [(0, .ref (q 0)), (1, .ref (g 0)), (2, .int x1)]) [4, 5, 3] rfl ?_
    exact hJ7 _ hf
  · replace hf := ifn h13 hf
    by_cases h16 : x5 = (2 : Int32)
    · replace hf := ifp h16 hf
      refine r_tin (pc := 37) (tgt := 114) cx (2 : Int32) h16 dX7_stepWithin_37 (by decide) (by decide) rfl (by decide) ?_
      refine r_aload_n (pc := 114) cx dX7_stepWithin_114 4 rfl ?_
      refine r_iload_n (pc := 115) cx dX7_stepWithin_115 2 rfl ?_
      refine r_aload_n (pc := 116) cx dX7_stepWithin_116 4 rfl ?_
      refine r_get (pc := 117) cx cf_X7 0 0 rfl (by decide) rfl wd_311 dX7_stepWithin_117 ?_
      refine r_iload (pc := 120) cx dX7_stepWithin_120 1 rfl ?_
      refine r_bipush (pc := 122) cx dX7_stepWithin_122 bp_7 ?_
      refine r_iand (pc := 124) cx dX7_stepWithin_124 ?_
      refine r_iald (pc := 125) cx 1 rfl (ix_and7 _) dX7_stepWithin_125 ?_
      refine r_aload_n (pc := 126) cx dX7_stepWithin_126 4 rfl ?_
      refine r_get (pc := 127) cx cf_X7 0 0 rfl (by decide) rfl wd_311 dX7_stepWithin_127 ?_
      refine r_iload (pc := 130) cx dX7_stepWithin_130 0 rfl ?_
      refine r_bipush (pc := 132) cx dX7_stepWithin_132 bp_7 ?_
      refine r_iand (pc := 134) cx dX7_stepWithin_134 ?_
      refine r_iald (pc := 135) cx 1 rfl (ix_and7 _) dX7_stepWithin_135 ?_
      refine r_iadd (pc := 136) cx dX7_stepWithin_136 ?_
      replace hf := bd_of hf
      obtain ⟨v17, hc18, hf⟩ := hf
      refine r_Vv (pc := 137) (ws' := [((q 0), ob 6 [.ref (q 1), .ref (q 2), .ref (q 3), .ref (q 4), .int (St_place v17), .int (St_steps v17)]), ((q 1), aI K 8 (St_registers v17)), ((q 2), aI K 4 (St_floats v17)), ((q 3), aI K 8 (St_stuckMask v17)), ((q 4), aI K 8 (St_stuckOnes v17)), ((g 0), ob 3 [.ref (g 1), .ref (g 2), .ref (g 3), .ref (g 4), .ref (g 5), .ref (g 6), .ref (g 7), .ref (g 8), .int (Pg_nameCount pr), .int (Pg_size pr), .int (Pg_lines pr)]), ((g 1), aI K 64 (Pg_code pr)), ((g 2), aI K 64 (Pg_first pr)), ((g 3), aI K 64 (Pg_second pr)), ((g 4), aI K 64 (Pg_third pr)), ((g 5), aI K 8 (Pg_rules pr)), ((g 6), aI K 32 (Pg_data pr)), ((g 7), aI K 140 (Pg_names pr)), ((g 8), aI K 140 (Pg_namedPlaces pr))]) (wc := [((q 0), ob 6 [.ref (q 1), .ref (q 2), .ref (q 3), .ref (q 4), .int (St_place v), .int (St_steps v)]), ((q 1), aI K 8 (St_registers v)), ((q 2), aI K 4 (St_floats v)), ((q 3), aI K 8 (St_stuckMask v)), ((q 4), aI K 8 (St_stuckOnes v))]) (nn := 5) cx [.int x2, .int (((St_registers v) ((x3 &&& (7 : Int32))).toNatClampNeg) + ((St_registers v) ((x4 &&& (7 : Int32))).toNatClampNeg))] [] (m_St_lay l D K q v x2 (((St_registers v) ((x3 &&& (7 : Int32))).toNatClampNeg) + ((St_registers v) ((x4 &&& (7 : Int32))).toNatClampNeg)) hc18) rfl yv_X7_lay wd_797 ⟨rfl, rfl⟩ (by decide) (fr_s (j := 0) rfl rfl rfl (fr_s (j := 1) rfl rfl rfl (fr_s (j := 2) rfl rfl rfl (fr_s (j := 3) rfl rfl rfl (fr_s (j := 4) rfl rfl rfl (fr_k (fr_k (fr_k (fr_k (fr_k (fr_k (fr_k (fr_k (fr_k (fr_n))))))))))))))) rfl (by decide) 0 rfl rfl rfl (Nat.le_of_ble_eq_true rfl) dX7_stepWithin_137 ?_
      refine r_goto (pc := 140) (tgt := 355) cx dX7_stepWithin_140 (by decide) ?_
      refine r_loc (loc' := [(0, .ref (q 0)), (1, .ref (g 0)), (2, .int x1)]) [4, 5, 3] rfl ?_
      exact hJ7 _ hf
    · replace hf := ifn h16 hf
      by_cases h19 : x5 = (3 : Int32)
      · replace hf := ifp h19 hf
        refine r_tin (pc := 37) (tgt := 143) cx (3 : Int32) h19 dX7_stepWithin_37 (by decide) (by decide) rfl (by decide) ?_
        refine r_aload_n (pc := 143) cx dX7_stepWithin_143 4 rfl ?_
        refine r_iload_n (pc := 144) cx dX7_stepWithin_144 2 rfl ?_
        refine r_aload_n (pc := 145) cx dX7_stepWithin_145 4 rfl ?_
        refine r_get (pc := 146) cx cf_X7 0 0 rfl (by decide) rfl wd_311 dX7_stepWithin_146 ?_
        refine r_iload (pc := 149) cx dX7_stepWithin_149 1 rfl ?_
        refine r_bipush (pc := 151) cx dX7_stepWithin_151 bp_7 ?_
        refine r_iand (pc := 153) cx dX7_stepWithin_153 ?_
        refine r_iald (pc := 154) cx 1 rfl (ix_and7 _) dX7_stepWithin_154 ?_
        refine r_aload_n (pc := 155) cx dX7_stepWithin_155 4 rfl ?_
        refine r_get (pc := 156) cx cf_X7 0 0 rfl (by decide) rfl wd_311 dX7_stepWithin_156 ?_
        refine r_iload (pc := 159) cx dX7_stepWithin_159 0 rfl ?_
        refine r_bipush (pc := 161) cx dX7_stepWithin_161 bp_7 ?_
        refine r_iand (pc := 163) cx dX7_stepWithin_163 ?_
        refine r_iald (pc := 164) cx 1 rfl (ix_and7 _) dX7_stepWithin_164 ?_
        refine r_isub (pc := 165) cx dX7_stepWithin_165 ?_
        replace hf := bd_of hf
        obtain ⟨v20, hc21, hf⟩ := hf
        refine r_Vv (pc := 166) (ws' := [((q 0), ob 6 [.ref (q 1), .ref (q 2), .ref (q 3), .ref (q 4), .int (St_place v20), .int (St_steps v20)]), ((q 1), aI K 8 (St_registers v20)), ((q 2), aI K 4 (St_floats v20)), ((q 3), aI K 8 (St_stuckMask v20)), ((q 4), aI K 8 (St_stuckOnes v20)), ((g 0), ob 3 [.ref (g 1), .ref (g 2), .ref (g 3), .ref (g 4), .ref (g 5), .ref (g 6), .ref (g 7), .ref (g 8), .int (Pg_nameCount pr), .int (Pg_size pr), .int (Pg_lines pr)]), ((g 1), aI K 64 (Pg_code pr)), ((g 2), aI K 64 (Pg_first pr)), ((g 3), aI K 64 (Pg_second pr)), ((g 4), aI K 64 (Pg_third pr)), ((g 5), aI K 8 (Pg_rules pr)), ((g 6), aI K 32 (Pg_data pr)), ((g 7), aI K 140 (Pg_names pr)), ((g 8), aI K 140 (Pg_namedPlaces pr))]) (wc := [((q 0), ob 6 [.ref (q 1), .ref (q 2), .ref (q 3), .ref (q 4), .int (St_place v), .int (St_steps v)]), ((q 1), aI K 8 (St_registers v)), ((q 2), aI K 4 (St_floats v)), ((q 3), aI K 8 (St_stuckMask v)), ((q 4), aI K 8 (St_stuckOnes v))]) (nn := 5) cx [.int x2, .int (((St_registers v) ((x3 &&& (7 : Int32))).toNatClampNeg) - ((St_registers v) ((x4 &&& (7 : Int32))).toNatClampNeg))] [] (m_St_lay l D K q v x2 (((St_registers v) ((x3 &&& (7 : Int32))).toNatClampNeg) - ((St_registers v) ((x4 &&& (7 : Int32))).toNatClampNeg)) hc21) rfl yv_X7_lay wd_797 ⟨rfl, rfl⟩ (by decide) (fr_s (j := 0) rfl rfl rfl (fr_s (j := 1) rfl rfl rfl (fr_s (j := 2) rfl rfl rfl (fr_s (j := 3) rfl rfl rfl (fr_s (j := 4) rfl rfl rfl (fr_k (fr_k (fr_k (fr_k (fr_k (fr_k (fr_k (fr_k (fr_k (fr_n))))))))))))))) rfl (by decide) 0 rfl rfl rfl (Nat.le_of_ble_eq_true rfl) dX7_stepWithin_166 ?_
        refine r_goto (pc := 169) (tgt := 355) cx dX7_stepWithin_169 (by decide) ?_
        refine r_loc (loc' := [(0, .ref (q 0)), (1, .ref (g 0)), (2, .int x1)]) [4, 5, 3] rfl ?_
        exact hJ7 _ hf
      · replace hf := ifn h19 hf
        by_cases h22 : x5 = (4 : Int32)
        · replace hf := ifp h22 hf
          refine r_tin (pc := 37) (tgt := 172) cx (4 : Int32) h22 dX7_stepWithin_37 (by decide) (by decide) rfl (by decide) ?_
          refine r_aload_n (pc := 172) cx dX7_stepWithin_172 4 rfl ?_
          refine r_iload_n (pc := 173) cx dX7_stepWithin_173 2 rfl ?_
          refine r_aload_n (pc := 174) cx dX7_stepWithin_174 4 rfl ?_
          refine r_get (pc := 175) cx cf_X7 0 0 rfl (by decide) rfl wd_311 dX7_stepWithin_175 ?_
          refine r_iload (pc := 178) cx dX7_stepWithin_178 1 rfl ?_
          refine r_bipush (pc := 180) cx dX7_stepWithin_180 bp_7 ?_
          refine r_iand (pc := 182) cx dX7_stepWithin_182 ?_
          refine r_iald (pc := 183) cx 1 rfl (ix_and7 _) dX7_stepWithin_183 ?_
          refine r_aload_n (pc := 184) cx dX7_stepWithin_184 4 rfl ?_
          refine r_get (pc := 185) cx cf_X7 0 0 rfl (by decide) rfl wd_311 dX7_stepWithin_185 ?_
          refine r_iload (pc := 188) cx dX7_stepWithin_188 0 rfl ?_
          refine r_bipush (pc := 190) cx dX7_stepWithin_190 bp_7 ?_
          refine r_iand (pc := 192) cx dX7_stepWithin_192 ?_
          refine r_iald (pc := 193) cx 1 rfl (ix_and7 _) dX7_stepWithin_193 ?_
          refine r_imul (pc := 194) cx dX7_stepWithin_194 ?_
          replace hf := bd_of hf
          obtain ⟨v23, hc24, hf⟩ := hf
          refine r_Vv (pc := 195) (ws' := [((q 0), ob 6 [.ref (q 1), .ref (q 2), .ref (q 3), .ref (q 4), .int (St_place v23), .int (St_steps v23)]), ((q 1), aI K 8 (St_registers v23)), ((q 2), aI K 4 (St_floats v23)), ((q 3), aI K 8 (St_stuckMask v23)), ((q 4), aI K 8 (St_stuckOnes v23)), ((g 0), ob 3 [.ref (g 1), .ref (g 2), .ref (g 3), .ref (g 4), .ref (g 5), .ref (g 6), .ref (g 7), .ref (g 8), .int (Pg_nameCount pr), .int (Pg_size pr), .int (Pg_lines pr)]), ((g 1), aI K 64 (Pg_code pr)), ((g 2), aI K 64 (Pg_first pr)), ((g 3), aI K 64 (Pg_second pr)), ((g 4), aI K 64 (Pg_third pr)), ((g 5), aI K 8 (Pg_rules pr)), ((g 6), aI K 32 (Pg_data pr)), ((g 7), aI K 140 (Pg_names pr)), ((g 8), aI K 140 (Pg_namedPlaces pr))]) (wc := [((q 0), ob 6 [.ref (q 1), .ref (q 2), .ref (q 3), .ref (q 4), .int (St_place v), .int (St_steps v)]), ((q 1), aI K 8 (St_registers v)), ((q 2), aI K 4 (St_floats v)), ((q 3), aI K 8 (St_stuckMask v)), ((q 4), aI K 8 (St_stuckOnes v))]) (nn := 5) cx [.int x2, .int (((St_registers v) ((x3 &&& (7 : Int32))).toNatClampNeg) * ((St_registers v) ((x4 &&& (7 : Int32))).toNatClampNeg))] [] (m_St_lay l D K q v x2 (((St_registers v) ((x3 &&& (7 : Int32))).toNatClampNeg) * ((St_registers v) ((x4 &&& (7 : Int32))).toNatClampNeg)) hc24) rfl yv_X7_lay wd_797 ⟨rfl, rfl⟩ (by decide) (fr_s (j := 0) rfl rfl rfl (fr_s (j := 1) rfl rfl rfl (fr_s (j := 2) rfl rfl rfl (fr_s (j := 3) rfl rfl rfl (fr_s (j := 4) rfl rfl rfl (fr_k (fr_k (fr_k (fr_k (fr_k (fr_k (fr_k (fr_k (fr_k (fr_n))))))))))))))) rfl (by decide) 0 rfl rfl rfl (Nat.le_of_ble_eq_true rfl) dX7_stepWithin_195 ?_
          refine r_goto (pc := 198) (tgt := 355) cx dX7_stepWithin_198 (by decide) ?_
          refine r_loc (loc' := [(0, .ref (q 0)), (1, .ref (g 0)), (2, .int x1)]) [4, 5, 3] rfl ?_
          exact hJ7 _ hf
        · replace hf := ifn h22 hf
          by_cases h25 : x5 = (5 : Int32)
          · replace hf := ifp h25 hf
            refine r_tin (pc := 37) (tgt := 201) cx (5 : Int32) h25 dX7_stepWithin_37 (by decide) (by decide) rfl (by decide) ?_
            refine r_aload_n (pc := 201) cx dX7_stepWithin_201 4 rfl ?_
            refine r_iload_n (pc := 202) cx dX7_stepWithin_202 2 rfl ?_
            refine r_aload_n (pc := 203) cx dX7_stepWithin_203 4 rfl ?_
            refine r_get (pc := 204) cx cf_X7 0 0 rfl (by decide) rfl wd_311 dX7_stepWithin_204 ?_
            refine r_iload (pc := 207) cx dX7_stepWithin_207 1 rfl ?_
            refine r_bipush (pc := 209) cx dX7_stepWithin_209 bp_7 ?_
            refine r_iand (pc := 211) cx dX7_stepWithin_211 ?_
            refine r_iald (pc := 212) cx 1 rfl (ix_and7 _) dX7_stepWithin_212 ?_
            refine r_aload_n (pc := 213) cx dX7_stepWithin_213 4 rfl ?_
            refine r_get (pc := 214) cx cf_X7 0 0 rfl (by decide) rfl wd_311 dX7_stepWithin_214 ?_
            refine r_iload (pc := 217) cx dX7_stepWithin_217 0 rfl ?_
            refine r_bipush (pc := 219) cx dX7_stepWithin_219 bp_7 ?_
            refine r_iand (pc := 221) cx dX7_stepWithin_221 ?_
            refine r_iald (pc := 222) cx 1 rfl (ix_and7 _) dX7_stepWithin_222 ?_
            refine r_ixor (pc := 223) cx dX7_stepWithin_223 ?_
            replace hf := bd_of hf
            obtain ⟨v26, hc27, hf⟩ := hf
            refine r_Vv (pc := 224) (ws' := [((q 0), ob 6 [.ref (q 1), .ref (q 2), .ref (q 3), .ref (q 4), .int (St_place v26), .int (St_steps v26)]), ((q 1), aI K 8 (St_registers v26)), ((q 2), aI K 4 (St_floats v26)), ((q 3), aI K 8 (St_stuckMask v26)), ((q 4), aI K 8 (St_stuckOnes v26)), ((g 0), ob 3 [.ref (g 1), .ref (g 2), .ref (g 3), .ref (g 4), .ref (g 5), .ref (g 6), .ref (g 7), .ref (g 8), .int (Pg_nameCount pr), .int (Pg_size pr), .int (Pg_lines pr)]), ((g 1), aI K 64 (Pg_code pr)), ((g 2), aI K 64 (Pg_first pr)), ((g 3), aI K 64 (Pg_second pr)), ((g 4), aI K 64 (Pg_third pr)), ((g 5), aI K 8 (Pg_rules pr)), ((g 6), aI K 32 (Pg_data pr)), ((g 7), aI K 140 (Pg_names pr)), ((g 8), aI K 140 (Pg_namedPlaces pr))]) (wc := [((q 0), ob 6 [.ref (q 1), .ref (q 2), .ref (q 3), .ref (q 4), .int (St_place v), .int (St_steps v)]), ((q 1), aI K 8 (St_registers v)), ((q 2), aI K 4 (St_floats v)), ((q 3), aI K 8 (St_stuckMask v)), ((q 4), aI K 8 (St_stuckOnes v))]) (nn := 5) cx [.int x2, .int (((St_registers v) ((x3 &&& (7 : Int32))).toNatClampNeg) ^^^ ((St_registers v) ((x4 &&& (7 : Int32))).toNatClampNeg))] [] (m_St_lay l D K q v x2 (((St_registers v) ((x3 &&& (7 : Int32))).toNatClampNeg) ^^^ ((St_registers v) ((x4 &&& (7 : Int32))).toNatClampNeg)) hc27) rfl yv_X7_lay wd_797 ⟨rfl, rfl⟩ (by decide) (fr_s (j := 0) rfl rfl rfl (fr_s (j := 1) rfl rfl rfl (fr_s (j := 2) rfl rfl rfl (fr_s (j := 3) rfl rfl rfl (fr_s (j := 4) rfl rfl rfl (fr_k (fr_k (fr_k (fr_k (fr_k (fr_k (fr_k (fr_k (fr_k (fr_n))))))))))))))) rfl (by decide) 0 rfl rfl rfl (Nat.le_of_ble_eq_true rfl) dX7_stepWithin_224 ?_
            refine r_goto (pc := 227) (tgt := 355) cx dX7_stepWithin_227 (by decide) ?_
            refine r_loc (loc' := [(0, .ref (q 0)), (1, .ref (g 0)), (2, .int x1)]) [4, 5, 3] rfl ?_
            exact hJ7 _ hf
          · replace hf := ifn h25 hf
            by_cases h29 : x5 = (6 : Int32)
            · replace hf := ifp h29 hf
              refine r_tin (pc := 37) (tgt := 355) cx (6 : Int32) h29 dX7_stepWithin_37 (by decide) (by decide) rfl (by decide) ?_
              refine r_loc (loc' := [(0, .ref (q 0)), (1, .ref (g 0)), (2, .int x1)]) [4, 5, 3] rfl ?_
              exact hJ7 _ hf
            · replace hf := ifn h29 hf
              by_cases h31 : x5 = (7 : Int32)
              · replace hf := ifp h31 hf
                refine r_tin (pc := 37) (tgt := 355) cx (7 : Int32) h31 dX7_stepWithin_37 (by decide) (by decide) rfl (by decide) ?_
                refine r_loc (loc' := [(0, .ref (q 0)), (1, .ref (g 0)), (2, .int x1)]) [4, 5, 3] rfl ?_
                exact hJ7 _ hf
              · replace hf := ifn h31 hf
                by_cases h33 : x5 = (8 : Int32)
                · replace hf := ifp h33 hf
                  refine r_tin (pc := 37) (tgt := 355) cx (8 : Int32) h33 dX7_stepWithin_37 (by decide) (by decide) rfl (by decide) ?_
                  refine r_loc (loc' := [(0, .ref (q 0)), (1, .ref (g 0)), (2, .int x1)]) [4, 5, 3] rfl ?_
                  exact hJ7 _ hf
                · replace hf := ifn h33 hf
                  by_cases h34 : x5 = (9 : Int32)
                  · replace hf := ifp h34 hf
                    refine r_tin (pc := 37) (tgt := 230) cx (9 : Int32) h34 dX7_stepWithin_37 (by decide) (by decide) rfl (by decide) ?_
                    refine r_aload_n (pc := 230) cx dX7_stepWithin_230 4 rfl ?_
                    refine r_get (pc := 231) cx cf_X7 0 1 rfl (by decide) rfl wd_313 dX7_stepWithin_231 ?_
                    refine r_iload_n (pc := 234) cx dX7_stepWithin_234 2 rfl ?_
                    refine r_iconst (pc := 235) cx dX7_stepWithin_235 ic_3 ?_
                    refine r_iand (pc := 236) cx dX7_stepWithin_236 ?_
                    refine r_aload_n (pc := 237) cx dX7_stepWithin_237 4 rfl ?_
                    refine r_get (pc := 238) cx cf_X7 0 0 rfl (by decide) rfl wd_311 dX7_stepWithin_238 ?_
                    refine r_iload (pc := 241) cx dX7_stepWithin_241 1 rfl ?_
                    refine r_bipush (pc := 243) cx dX7_stepWithin_243 bp_7 ?_
                    refine r_iand (pc := 245) cx dX7_stepWithin_245 ?_
                    refine r_iald (pc := 246) cx 1 rfl (ix_and7 _) dX7_stepWithin_246 ?_
                    replace hf := bd_of hf
                    obtain ⟨r35, hc36, hf⟩ := hf
                    refine r_Si (pc := 247) (ws' := [((q 0), ob 6 [.ref (q 1), .ref (q 2), .ref (q 3), .ref (q 4), .int (St_place v), .int (St_steps v)]), ((q 1), aI K 8 (St_registers v)), ((q 2), aI K 4 (St_floats v)), ((q 3), aI K 8 (St_stuckMask v)), ((q 4), aI K 8 (St_stuckOnes v)), ((g 0), ob 3 [.ref (g 1), .ref (g 2), .ref (g 3), .ref (g 4), .ref (g 5), .ref (g 6), .ref (g 7), .ref (g 8), .int (Pg_nameCount pr), .int (Pg_size pr), .int (Pg_lines pr)]), ((g 1), aI K 64 (Pg_code pr)), ((g 2), aI K 64 (Pg_first pr)), ((g 3), aI K 64 (Pg_second pr)), ((g 4), aI K 64 (Pg_third pr)), ((g 5), aI K 8 (Pg_rules pr)), ((g 6), aI K 32 (Pg_data pr)), ((g 7), aI K 140 (Pg_names pr)), ((g 8), aI K 140 (Pg_namedPlaces pr))]) (wc := []) (nn := 0) cx [.int ((St_registers v) ((x3 &&& (7 : Int32))).toNatClampNeg)] [.int (x2 &&& (3 : Int32)), .ref (q 2)] (m_Fl_ofWhole l D K ((St_registers v) ((x3 &&& (7 : Int32))).toNatClampNeg) hc36) rfl ys_X1_ofWhole wd_822 ⟨rfl, rfl⟩ (by decide) (fr_k (fr_k (fr_k (fr_k (fr_k (fr_k (fr_k (fr_k (fr_k (fr_k (fr_k (fr_k (fr_k (fr_k (fr_n))))))))))))))) rfl (by decide) rfl (Nat.le_of_ble_eq_true rfl) dX7_stepWithin_247 ?_
                    replace hf := nm_of hf
                    obtain ⟨f37, ef37, hf⟩ := hf
                    refine r_iast (pc := 250) (ws' := [((q 0), ob 6 [.ref (q 1), .ref (q 2), .ref (q 3), .ref (q 4), .int (St_place v), .int (St_steps v)]), ((q 1), aI K 8 (St_registers v)), ((q 2), aI K 4 f37), ((q 3), aI K 8 (St_stuckMask v)), ((q 4), aI K 8 (St_stuckOnes v)), ((g 0), ob 3 [.ref (g 1), .ref (g 2), .ref (g 3), .ref (g 4), .ref (g 5), .ref (g 6), .ref (g 7), .ref (g 8), .int (Pg_nameCount pr), .int (Pg_size pr), .int (Pg_lines pr)]), ((g 1), aI K 64 (Pg_code pr)), ((g 2), aI K 64 (Pg_first pr)), ((g 3), aI K 64 (Pg_second pr)), ((g 4), aI K 64 (Pg_third pr)), ((g 5), aI K 8 (Pg_rules pr)), ((g 6), aI K 32 (Pg_data pr)), ((g 7), aI K 140 (Pg_names pr)), ((g 8), aI K 140 (Pg_namedPlaces pr))]) cx 2 rfl (ix_and3 _) dX7_stepWithin_250 ef37 rfl ?_
                    refine r_goto (pc := 251) (tgt := 355) cx dX7_stepWithin_251 (by decide) ?_
                    refine r_loc (loc' := [(0, .ref (q 0)), (1, .ref (g 0)), (2, .int x1)]) [4, 5, 3] rfl ?_
                    exact hJ7 _ hf
                  · replace hf := ifn h34 hf
                    by_cases h38 : x5 = (10 : Int32)
                    · replace hf := ifp h38 hf
                      refine r_tin (pc := 37) (tgt := 254) cx (10 : Int32) h38 dX7_stepWithin_37 (by decide) (by decide) rfl (by decide) ?_
                      refine r_aload_n (pc := 254) cx dX7_stepWithin_254 4 rfl ?_
                      refine r_iload_n (pc := 255) cx dX7_stepWithin_255 2 rfl ?_
                      refine r_aload_n (pc := 256) cx dX7_stepWithin_256 4 rfl ?_
                      refine r_get (pc := 257) cx cf_X7 0 1 rfl (by decide) rfl wd_313 dX7_stepWithin_257 ?_
                      refine r_iload (pc := 260) cx dX7_stepWithin_260 1 rfl ?_
                      refine r_iconst (pc := 262) cx dX7_stepWithin_262 ic_3 ?_
                      refine r_iand (pc := 263) cx dX7_stepWithin_263 ?_
                      refine r_iald (pc := 264) cx 2 rfl (ix_and3 _) dX7_stepWithin_264 ?_
                      replace hf := bd_of hf
                      obtain ⟨r39, hc40, hf⟩ := hf
                      refine r_Si (pc := 265) (ws' := [((q 0), ob 6 [.ref (q 1), .ref (q 2), .ref (q 3), .ref (q 4), .int (St_place v), .int (St_steps v)]), ((q 1), aI K 8 (St_registers v)), ((q 2), aI K 4 (St_floats v)), ((q 3), aI K 8 (St_stuckMask v)), ((q 4), aI K 8 (St_stuckOnes v)), ((g 0), ob 3 [.ref (g 1), .ref (g 2), .ref (g 3), .ref (g 4), .ref (g 5), .ref (g 6), .ref (g 7), .ref (g 8), .int (Pg_nameCount pr), .int (Pg_size pr), .int (Pg_lines pr)]), ((g 1), aI K 64 (Pg_code pr)), ((g 2), aI K 64 (Pg_first pr)), ((g 3), aI K 64 (Pg_second pr)), ((g 4), aI K 64 (Pg_third pr)), ((g 5), aI K 8 (Pg_rules pr)), ((g 6), aI K 32 (Pg_data pr)), ((g 7), aI K 140 (Pg_names pr)), ((g 8), aI K 140 (Pg_namedPlaces pr))]) (wc := []) (nn := 0) cx [.int ((St_floats v) ((x3 &&& (3 : Int32))).toNatClampNeg)] [.int x2, .ref (q 0)] (m_Fl_toWhole l D K ((St_floats v) ((x3 &&& (3 : Int32))).toNatClampNeg) hc40) rfl ys_X1_toWhole wd_846 ⟨rfl, rfl⟩ (by decide) (fr_k (fr_k (fr_k (fr_k (fr_k (fr_k (fr_k (fr_k (fr_k (fr_k (fr_k (fr_k (fr_k (fr_k (fr_n))))))))))))))) rfl (by decide) rfl (Nat.le_of_ble_eq_true rfl) dX7_stepWithin_265 ?_
                      replace hf := bd_of hf
                      obtain ⟨v41, hc42, hf⟩ := hf
                      refine r_Vv (pc := 268) (ws' := [((q 0), ob 6 [.ref (q 1), .ref (q 2), .ref (q 3), .ref (q 4), .int (St_place v41), .int (St_steps v41)]), ((q 1), aI K 8 (St_registers v41)), ((q 2), aI K 4 (St_floats v41)), ((q 3), aI K 8 (St_stuckMask v41)), ((q 4), aI K 8 (St_stuckOnes v41)), ((g 0), ob 3 [.ref (g 1), .ref (g 2), .ref (g 3), .ref (g 4), .ref (g 5), .ref (g 6), .ref (g 7), .ref (g 8), .int (Pg_nameCount pr), .int (Pg_size pr), .int (Pg_lines pr)]), ((g 1), aI K 64 (Pg_code pr)), ((g 2), aI K 64 (Pg_first pr)), ((g 3), aI K 64 (Pg_second pr)), ((g 4), aI K 64 (Pg_third pr)), ((g 5), aI K 8 (Pg_rules pr)), ((g 6), aI K 32 (Pg_data pr)), ((g 7), aI K 140 (Pg_names pr)), ((g 8), aI K 140 (Pg_namedPlaces pr))]) (wc := [((q 0), ob 6 [.ref (q 1), .ref (q 2), .ref (q 3), .ref (q 4), .int (St_place v), .int (St_steps v)]), ((q 1), aI K 8 (St_registers v)), ((q 2), aI K 4 (St_floats v)), ((q 3), aI K 8 (St_stuckMask v)), ((q 4), aI K 8 (St_stuckOnes v))]) (nn := 5) cx [.int x2, .int r39] [] (m_St_lay l D K q v x2 r39 hc42) rfl yv_X7_lay wd_797 ⟨rfl, rfl⟩ (by decide) (fr_s (j := 0) rfl rfl rfl (fr_s (j := 1) rfl rfl rfl (fr_s (j := 2) rfl rfl rfl (fr_s (j := 3) rfl rfl rfl (fr_s (j := 4) rfl rfl rfl (fr_k (fr_k (fr_k (fr_k (fr_k (fr_k (fr_k (fr_k (fr_k (fr_n))))))))))))))) rfl (by decide) 0 rfl rfl rfl (Nat.le_of_ble_eq_true rfl) dX7_stepWithin_268 ?_
                      refine r_goto (pc := 271) (tgt := 355) cx dX7_stepWithin_271 (by decide) ?_
                      refine r_loc (loc' := [(0, .ref (q 0)), (1, .ref (g 0)), (2, .int x1)]) [4, 5, 3] rfl ?_
                      exact hJ7 _ hf
                    · replace hf := ifn h38 hf
                      by_cases h43 : x5 = (11 : Int32)
                      · replace hf := ifp h43 hf
                        refine r_tin (pc := 37) (tgt := 274) cx (11 : Int32) h43 dX7_stepWithin_37 (by decide) (by decide) rfl (by decide) ?_
                        refine r_aload_n (pc := 274) cx dX7_stepWithin_274 4 rfl ?_
                        refine r_iload_n (pc := 275) cx dX7_stepWithin_275 2 rfl ?_
                        refine r_aload_n (pc := 276) cx dX7_stepWithin_276 4 rfl ?_
                        refine r_get (pc := 277) cx cf_X7 0 1 rfl (by decide) rfl wd_313 dX7_stepWithin_277 ?_
                        refine r_iload (pc := 280) cx dX7_stepWithin_280 1 rfl ?_
                        refine r_iconst (pc := 282) cx dX7_stepWithin_282 ic_3 ?_
                        refine r_iand (pc := 283) cx dX7_stepWithin_283 ?_
                        refine r_iald (pc := 284) cx 2 rfl (ix_and3 _) dX7_stepWithin_284 ?_
                        replace hf := bd_of hf
                        obtain ⟨v44, hc45, hf⟩ := hf
                        refine r_Vv (pc := 285) (ws' := [((q 0), ob 6 [.ref (q 1), .ref (q 2), .ref (q 3), .ref (q 4), .int (St_place v44), .int (St_steps v44)]), ((q 1), aI K 8 (St_registers v44)), ((q 2), aI K 4 (St_floats v44)), ((q 3), aI K 8 (St_stuckMask v44)), ((q 4), aI K 8 (St_stuckOnes v44)), ((g 0), ob 3 [.ref (g 1), .ref (g 2), .ref (g 3), .ref (g 4), .ref (g 5), .ref (g 6), .ref (g 7), .ref (g 8), .int (Pg_nameCount pr), .int (Pg_size pr), .int (Pg_lines pr)]), ((g 1), aI K 64 (Pg_code pr)), ((g 2), aI K 64 (Pg_first pr)), ((g 3), aI K 64 (Pg_second pr)), ((g 4), aI K 64 (Pg_third pr)), ((g 5), aI K 8 (Pg_rules pr)), ((g 6), aI K 32 (Pg_data pr)), ((g 7), aI K 140 (Pg_names pr)), ((g 8), aI K 140 (Pg_namedPlaces pr))]) (wc := [((q 0), ob 6 [.ref (q 1), .ref (q 2), .ref (q 3), .ref (q 4), .int (St_place v), .int (St_steps v)]), ((q 1), aI K 8 (St_registers v)), ((q 2), aI K 4 (St_floats v)), ((q 3), aI K 8 (St_stuckMask v)), ((q 4), aI K 8 (St_stuckOnes v))]) (nn := 5) cx [.int x2, .int ((St_floats v) ((x3 &&& (3 : Int32))).toNatClampNeg)] [] (m_St_lay l D K q v x2 ((St_floats v) ((x3 &&& (3 : Int32))).toNatClampNeg) hc45) rfl yv_X7_lay wd_797 ⟨rfl, rfl⟩ (by decide) (fr_s (j := 0) rfl rfl rfl (fr_s (j := 1) rfl rfl rfl (fr_s (j := 2) rfl rfl rfl (fr_s (j := 3) rfl rfl rfl (fr_s (j := 4) rfl rfl rfl (fr_k (fr_k (fr_k (fr_k (fr_k (fr_k (fr_k (fr_k (fr_k (fr_n))))))))))))))) rfl (by decide) 0 rfl rfl rfl (Nat.le_of_ble_eq_true rfl) dX7_stepWithin_285 ?_
                        refine r_goto (pc := 288) (tgt := 355) cx dX7_stepWithin_288 (by decide) ?_
                        refine r_loc (loc' := [(0, .ref (q 0)), (1, .ref (g 0)), (2, .int x1)]) [4, 5, 3] rfl ?_
                        exact hJ7 _ hf
                      · replace hf := ifn h43 hf
                        by_cases h46 : x5 = (12 : Int32)
                        · replace hf := ifp h46 hf
                          refine r_tin (pc := 37) (tgt := 291) cx (12 : Int32) h46 dX7_stepWithin_37 (by decide) (by decide) rfl (by decide) ?_
                          refine r_aload_n (pc := 291) cx dX7_stepWithin_291 4 rfl ?_
                          refine r_get (pc := 292) cx cf_X7 0 1 rfl (by decide) rfl wd_313 dX7_stepWithin_292 ?_
                          refine r_iload_n (pc := 295) cx dX7_stepWithin_295 2 rfl ?_
                          refine r_iconst (pc := 296) cx dX7_stepWithin_296 ic_3 ?_
                          refine r_iand (pc := 297) cx dX7_stepWithin_297 ?_
                          refine r_aload_n (pc := 298) cx dX7_stepWithin_298 4 rfl ?_
                          refine r_get (pc := 299) cx cf_X7 0 1 rfl (by decide) rfl wd_313 dX7_stepWithin_299 ?_
                          refine r_iload (pc := 302) cx dX7_stepWithin_302 1 rfl ?_
                          refine r_iconst (pc := 304) cx dX7_stepWithin_304 ic_3 ?_
                          refine r_iand (pc := 305) cx dX7_stepWithin_305 ?_
                          refine r_iald (pc := 306) cx 2 rfl (ix_and3 _) dX7_stepWithin_306 ?_
                          refine r_aload_n (pc := 307) cx dX7_stepWithin_307 4 rfl ?_
                          refine r_get (pc := 308) cx cf_X7 0 1 rfl (by decide) rfl wd_313 dX7_stepWithin_308 ?_
                          refine r_iload (pc := 311) cx dX7_stepWithin_311 0 rfl ?_
                          refine r_iconst (pc := 313) cx dX7_stepWithin_313 ic_3 ?_
                          refine r_iand (pc := 314) cx dX7_stepWithin_314 ?_
                          refine r_iald (pc := 315) cx 2 rfl (ix_and3 _) dX7_stepWithin_315 ?_
                          replace hf := bd_of hf
                          obtain ⟨r47, hc48, hf⟩ := hf
                          refine r_Si (pc := 316) (ws' := [((q 0), ob 6 [.ref (q 1), .ref (q 2), .ref (q 3), .ref (q 4), .int (St_place v), .int (St_steps v)]), ((q 1), aI K 8 (St_registers v)), ((q 2), aI K 4 (St_floats v)), ((q 3), aI K 8 (St_stuckMask v)), ((q 4), aI K 8 (St_stuckOnes v)), ((g 0), ob 3 [.ref (g 1), .ref (g 2), .ref (g 3), .ref (g 4), .ref (g 5), .ref (g 6), .ref (g 7), .ref (g 8), .int (Pg_nameCount pr), .int (Pg_size pr), .int (Pg_lines pr)]), ((g 1), aI K 64 (Pg_code pr)), ((g 2), aI K 64 (Pg_first pr)), ((g 3), aI K 64 (Pg_second pr)), ((g 4), aI K 64 (Pg_third pr)), ((g 5), aI K 8 (Pg_rules pr)), ((g 6), aI K 32 (Pg_data pr)), ((g 7), aI K 140 (Pg_names pr)), ((g 8), aI K 140 (Pg_namedPlaces pr))]) (wc := []) (nn := 0) cx [.int ((St_floats v) ((x3 &&& (3 : Int32))).toNatClampNeg), .int ((St_floats v) ((x4 &&& (3 : Int32))).toNatClampNeg)] [.int (x2 &&& (3 : Int32)), .ref (q 2)] (m_Fl_sum l D K ((St_floats v) ((x3 &&& (3 : Int32))).toNatClampNeg) ((St_floats v) ((x4 &&& (3 : Int32))).toNatClampNeg) hc48) rfl ys_X1_sum wd_859 ⟨rfl, rfl⟩ (by decide) (fr_k (fr_k (fr_k (fr_k (fr_k (fr_k (fr_k (fr_k (fr_k (fr_k (fr_k (fr_k (fr_k (fr_k (fr_n))))))))))))))) rfl (by decide) rfl (Nat.le_of_ble_eq_true rfl) dX7_stepWithin_316 ?_
                          replace hf := nm_of hf
                          obtain ⟨f49, ef49, hf⟩ := hf
                          refine r_iast (pc := 319) (ws' := [((q 0), ob 6 [.ref (q 1), .ref (q 2), .ref (q 3), .ref (q 4), .int (St_place v), .int (St_steps v)]), ((q 1), aI K 8 (St_registers v)), ((q 2), aI K 4 f49), ((q 3), aI K 8 (St_stuckMask v)), ((q 4), aI K 8 (St_stuckOnes v)), ((g 0), ob 3 [.ref (g 1), .ref (g 2), .ref (g 3), .ref (g 4), .ref (g 5), .ref (g 6), .ref (g 7), .ref (g 8), .int (Pg_nameCount pr), .int (Pg_size pr), .int (Pg_lines pr)]), ((g 1), aI K 64 (Pg_code pr)), ((g 2), aI K 64 (Pg_first pr)), ((g 3), aI K 64 (Pg_second pr)), ((g 4), aI K 64 (Pg_third pr)), ((g 5), aI K 8 (Pg_rules pr)), ((g 6), aI K 32 (Pg_data pr)), ((g 7), aI K 140 (Pg_names pr)), ((g 8), aI K 140 (Pg_namedPlaces pr))]) cx 2 rfl (ix_and3 _) dX7_stepWithin_319 ef49 rfl ?_
                          refine r_goto (pc := 320) (tgt := 355) cx dX7_stepWithin_320 (by decide) ?_
                          refine r_loc (loc' := [(0, .ref (q 0)), (1, .ref (g 0)), (2, .int x1)]) [4, 5, 3] rfl ?_
                          exact hJ7 _ hf
                        · replace hf := ifn h46 hf
                          by_cases h50 : x5 = (13 : Int32)
                          · replace hf := ifp h50 hf
                            refine r_tin (pc := 37) (tgt := 323) cx (13 : Int32) h50 dX7_stepWithin_37 (by decide) (by decide) rfl (by decide) ?_
                            refine r_aload_n (pc := 323) cx dX7_stepWithin_323 4 rfl ?_
                            refine r_get (pc := 324) cx cf_X7 0 1 rfl (by decide) rfl wd_313 dX7_stepWithin_324 ?_
                            refine r_iload_n (pc := 327) cx dX7_stepWithin_327 2 rfl ?_
                            refine r_iconst (pc := 328) cx dX7_stepWithin_328 ic_3 ?_
                            refine r_iand (pc := 329) cx dX7_stepWithin_329 ?_
                            refine r_aload_n (pc := 330) cx dX7_stepWithin_330 4 rfl ?_
                            refine r_get (pc := 331) cx cf_X7 0 1 rfl (by decide) rfl wd_313 dX7_stepWithin_331 ?_
                            refine r_iload (pc := 334) cx dX7_stepWithin_334 1 rfl ?_
                            refine r_iconst (pc := 336) cx dX7_stepWithin_336 ic_3 ?_
                            refine r_iand (pc := 337) cx dX7_stepWithin_337 ?_
                            refine r_iald (pc := 338) cx 2 rfl (ix_and3 _) dX7_stepWithin_338 ?_
                            refine r_aload_n (pc := 339) cx dX7_stepWithin_339 4 rfl ?_
                            refine r_get (pc := 340) cx cf_X7 0 1 rfl (by decide) rfl wd_313 dX7_stepWithin_340 ?_
                            refine r_iload (pc := 343) cx dX7_stepWithin_343 0 rfl ?_
                            refine r_iconst (pc := 345) cx dX7_stepWithin_345 ic_3 ?_
                            refine r_iand (pc := 346) cx dX7_stepWithin_346 ?_
                            refine r_iald (pc := 347) cx 2 rfl (ix_and3 _) dX7_stepWithin_347 ?_
                            replace hf := bd_of hf
                            obtain ⟨r51, hc52, hf⟩ := hf
                            refine r_Si (pc := 348) (ws' := [((q 0), ob 6 [.ref (q 1), .ref (q 2), .ref (q 3), .ref (q 4), .int (St_place v), .int (St_steps v)]), ((q 1), aI K 8 (St_registers v)), ((q 2), aI K 4 (St_floats v)), ((q 3), aI K 8 (St_stuckMask v)), ((q 4), aI K 8 (St_stuckOnes v)), ((g 0), ob 3 [.ref (g 1), .ref (g 2), .ref (g 3), .ref (g 4), .ref (g 5), .ref (g 6), .ref (g 7), .ref (g 8), .int (Pg_nameCount pr), .int (Pg_size pr), .int (Pg_lines pr)]), ((g 1), aI K 64 (Pg_code pr)), ((g 2), aI K 64 (Pg_first pr)), ((g 3), aI K 64 (Pg_second pr)), ((g 4), aI K 64 (Pg_third pr)), ((g 5), aI K 8 (Pg_rules pr)), ((g 6), aI K 32 (Pg_data pr)), ((g 7), aI K 140 (Pg_names pr)), ((g 8), aI K 140 (Pg_namedPlaces pr))]) (wc := []) (nn := 0) cx [.int ((St_floats v) ((x3 &&& (3 : Int32))).toNatClampNeg), .int ((St_floats v) ((x4 &&& (3 : Int32))).toNatClampNeg)] [.int (x2 &&& (3 : Int32)), .ref (q 2)] (m_Fl_product l D K ((St_floats v) ((x3 &&& (3 : Int32))).toNatClampNeg) ((St_floats v) ((x4 &&& (3 : Int32))).toNatClampNeg) hc52) rfl ys_X1_product wd_863 ⟨rfl, rfl⟩ (by decide) (fr_k (fr_k (fr_k (fr_k (fr_k (fr_k (fr_k (fr_k (fr_k (fr_k (fr_k (fr_k (fr_k (fr_k (fr_n))))))))))))))) rfl (by decide) rfl (Nat.le_of_ble_eq_true rfl) dX7_stepWithin_348 ?_
                            replace hf := nm_of hf
                            obtain ⟨f53, ef53, hf⟩ := hf
                            refine r_iast (pc := 351) (ws' := [((q 0), ob 6 [.ref (q 1), .ref (q 2), .ref (q 3), .ref (q 4), .int (St_place v), .int (St_steps v)]), ((q 1), aI K 8 (St_registers v)), ((q 2), aI K 4 f53), ((q 3), aI K 8 (St_stuckMask v)), ((q 4), aI K 8 (St_stuckOnes v)), ((g 0), ob 3 [.ref (g 1), .ref (g 2), .ref (g 3), .ref (g 4), .ref (g 5), .ref (g 6), .ref (g 7), .ref (g 8), .int (Pg_nameCount pr), .int (Pg_size pr), .int (Pg_lines pr)]), ((g 1), aI K 64 (Pg_code pr)), ((g 2), aI K 64 (Pg_first pr)), ((g 3), aI K 64 (Pg_second pr)), ((g 4), aI K 64 (Pg_third pr)), ((g 5), aI K 8 (Pg_rules pr)), ((g 6), aI K 32 (Pg_data pr)), ((g 7), aI K 140 (Pg_names pr)), ((g 8), aI K 140 (Pg_namedPlaces pr))]) cx 2 rfl (ix_and3 _) dX7_stepWithin_351 ef53 rfl ?_
                            refine r_goto (pc := 352) (tgt := 355) cx dX7_stepWithin_352 (by decide) ?_
                            refine r_loc (loc' := [(0, .ref (q 0)), (1, .ref (g 0)), (2, .int x1)]) [4, 5, 3] rfl ?_
                            exact hJ7 _ hf
                          · replace hf := ifn h50 hf
                            refine r_tout (pc := 37) (tgt := 355) cx dX7_stepWithin_37 (by
                              have nh13 := toInt_ne h13
                              have mh13 : (1 : Int32).toInt = 1 := by decide
                              rw [mh13] at nh13
                              have nh16 := toInt_ne h16
                              have mh16 : (2 : Int32).toInt = 2 := by decide
                              rw [mh16] at nh16
                              have nh19 := toInt_ne h19
                              have mh19 : (3 : Int32).toInt = 3 := by decide
                              rw [mh19] at nh19
                              have nh22 := toInt_ne h22
                              have mh22 : (4 : Int32).toInt = 4 := by decide
                              rw [mh22] at nh22
                              have nh25 := toInt_ne h25
                              have mh25 : (5 : Int32).toInt = 5 := by decide
                              rw [mh25] at nh25
                              have nh29 := toInt_ne h29
                              have mh29 : (6 : Int32).toInt = 6 := by decide
                              rw [mh29] at nh29
                              have nh31 := toInt_ne h31
                              have mh31 : (7 : Int32).toInt = 7 := by decide
                              rw [mh31] at nh31
                              have nh33 := toInt_ne h33
                              have mh33 : (8 : Int32).toInt = 8 := by decide
                              rw [mh33] at nh33
                              have nh34 := toInt_ne h34
                              have mh34 : (9 : Int32).toInt = 9 := by decide
                              rw [mh34] at nh34
                              have nh38 := toInt_ne h38
                              have mh38 : (10 : Int32).toInt = 10 := by decide
                              rw [mh38] at nh38
                              have nh43 := toInt_ne h43
                              have mh43 : (11 : Int32).toInt = 11 := by decide
                              rw [mh43] at nh43
                              have nh46 := toInt_ne h46
                              have mh46 : (12 : Int32).toInt = 12 := by decide
                              rw [mh46] at nh46
                              have nh50 := toInt_ne h50
                              have mh50 : (13 : Int32).toInt = 13 := by decide
                              rw [mh50] at nh50
                              omega) (by decide) ?_
                            refine r_loc (loc' := [(0, .ref (q 0)), (1, .ref (g 0)), (2, .int x1)]) [4, 5, 3] rfl ?_
                            exact hJ7 _ hf
theorem yv_X7_stepWithin : YV yX7_stepWithin cX7_stepWithin 6 (none) 1 := ⟨⟨by decide +kernel, by decide +kernel, by decide +kernel⟩, wd_821, wd_96, wd_819, wd_820⟩
