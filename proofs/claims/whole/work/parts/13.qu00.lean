abbrev rm_Ou_begin : Room := { frames := 1, cells := 0, slots := 0, locals := 40 }
set_option maxRecDepth 100000 in
set_option maxHeartbeats 4000000 in
theorem m_Ou_begin (l : Launch) (D : va_G) (K : Nat → ClassId) (q : Nat → Nat) (v : T_Ou) (qz : Nat → Nat) (ar : (Nat → Int32)) {o_v : T_Ou} (hf : f_Ou_begin v ar = some o_v) : MV l yX2_begin cX2_begin 2 (none) rm_Ou_begin D K [.ref (q 0), .ref (qz 0)] (cl_Ou K q v ++ (cl_R K 32 qz ar)) (cl_Ou K q o_v ++ (cl_R K 32 qz ar)) := by
  refine MV_of (loc0 := [(0, .ref (q 0)), (1, .ref (qz 0))]) (by decide +kernel) rfl (Nat.le_of_ble_eq_true rfl) ?_
  intro p e s m args below meth c A cx
  unfold f_Ou_begin at hf
  refine r_ws (ws' := [((q 0), ob 1 [.ref (q 1), .ref (q 2), .ref (q 3), .ref (q 4), .ref (q 5), .int (Ou_stores v), .int (Ou_outputs v)]), ((q 1), aI K 32 (Ou_memory v)), ((q 2), aI K 40 (Ou_output v)), ((q 3), aI K 16 (Ou_leftAddress v)), ((q 4), aI K 16 (Ou_leftWord v)), ((q 5), aI K 16 (Ou_leftPoint v)), ((qz 0), aI K 32 ar)]) rfl ?_
  refine r_aload_n (pc := 0) cx dX2_begin_0 1 rfl ?_
  refine r_iconst (pc := 1) cx dX2_begin_1 ic_0 ?_
  refine r_aload_n (pc := 2) cx dX2_begin_2 0 rfl ?_
  refine r_get (pc := 3) cx cf_X2 0 0 rfl (by decide) rfl wd_398 dX2_begin_3 ?_
  refine r_iconst (pc := 6) cx dX2_begin_6 ic_0 ?_
  refine r_bipush (pc := 7) cx dX2_begin_7 bp_32 ?_
  replace hf := nm_of hf
  obtain ⟨f1, ef1, hf⟩ := hf
  refine r_copyI (pc := 9) (ws' := [((q 0), ob 1 [.ref (q 1), .ref (q 2), .ref (q 3), .ref (q 4), .ref (q 5), .int (Ou_stores v), .int (Ou_outputs v)]), ((q 1), aI K 32 f1), ((q 2), aI K 40 (Ou_output v)), ((q 3), aI K 16 (Ou_leftAddress v)), ((q 4), aI K 16 (Ou_leftWord v)), ((q 5), aI K 16 (Ou_leftPoint v)), ((qz 0), aI K 32 ar)]) cx 6 1 rfl rfl (by decide) (nn := 32) (by decide) (by decide) (by decide) ef1 wd_505 wd_488 wd_487 wd_100 (by decide) (by decide) dX2_begin_9 rfl ?_
  refine r_aload_n (pc := 12) cx dX2_begin_12 0 rfl ?_
  refine r_iconst (pc := 13) cx dX2_begin_13 ic_0 ?_
  refine r_putI (pc := 14) (ws' := [((q 0), ob 1 [.ref (q 1), .ref (q 2), .ref (q 3), .ref (q 4), .ref (q 5), .int (0 : Int32), .int (Ou_outputs v)]), ((q 1), aI K 32 f1), ((q 2), aI K 40 (Ou_output v)), ((q 3), aI K 16 (Ou_leftAddress v)), ((q 4), aI K 16 (Ou_leftWord v)), ((q 5), aI K 16 (Ou_leftPoint v)), ((qz 0), aI K 32 ar)]) cx cf_X2 0 5 rfl (by decide) (Nat.le_of_ble_eq_true rfl) rfl pfd_I wd_405 dX2_begin_14 rfl ?_
  refine r_aload_n (pc := 17) cx dX2_begin_17 0 rfl ?_
  refine r_iconst (pc := 18) cx dX2_begin_18 ic_0 ?_
  refine r_putI (pc := 19) (ws' := [((q 0), ob 1 [.ref (q 1), .ref (q 2), .ref (q 3), .ref (q 4), .ref (q 5), .int (0 : Int32), .int (0 : Int32)]), ((q 1), aI K 32 f1), ((q 2), aI K 40 (Ou_output v)), ((q 3), aI K 16 (Ou_leftAddress v)), ((q 4), aI K 16 (Ou_leftWord v)), ((q 5), aI K 16 (Ou_leftPoint v)), ((qz 0), aI K 32 ar)]) cx cf_X2 0 6 rfl (by decide) (Nat.le_of_ble_eq_true rfl) rfl pfd_I wd_407 dX2_begin_19 rfl ?_
  have hi := inj1 hf
  exact r_vret (pc := 22) cx (by rw [← hi]; (try simp only [cl_Ou, Ou_memory_mk, Ou_output_mk, Ou_leftAddress_mk, Ou_leftWord_mk, Ou_leftPoint_mk, Ou_stores_mk, Ou_outputs_mk, cl_R, List.cons_append, List.nil_append, List.append_nil]) <;> rfl) dX2_begin_22
theorem yv_X2_begin : YV yX2_begin cX2_begin 2 (none) 1 := ⟨⟨by decide +kernel, by decide +kernel, by decide +kernel⟩, wd_504, wd_98, wd_502, wd_503⟩
abbrev rm_Ou_copyFrom : Room := { frames := 1, cells := 0, slots := 0, locals := 40 }
set_option maxRecDepth 100000 in
set_option maxHeartbeats 4000000 in
theorem m_Ou_copyFrom (l : Launch) (D : va_G) (K : Nat → ClassId) (q : Nat → Nat) (v : T_Ou) (qw : Nat → Nat) (w : T_Ou) {o_v : T_Ou} (hf : f_Ou_copyFrom v w = some o_v) : MV l yX2_copyFrom cX2_copyFrom 2 (none) rm_Ou_copyFrom D K [.ref (q 0), .ref (qw 0)] (cl_Ou K q v ++ (cl_Ou K qw w)) (cl_Ou K q o_v ++ (cl_Ou K qw w)) := by
  refine MV_of (loc0 := [(0, .ref (q 0)), (1, .ref (qw 0))]) (by decide +kernel) rfl (Nat.le_of_ble_eq_true rfl) ?_
  intro p e s m args below meth c A cx
  unfold f_Ou_copyFrom at hf
  refine r_ws (ws' := [((q 0), ob 1 [.ref (q 1), .ref (q 2), .ref (q 3), .ref (q 4), .ref (q 5), .int (Ou_stores v), .int (Ou_outputs v)]), ((q 1), aI K 32 (Ou_memory v)), ((q 2), aI K 40 (Ou_output v)), ((q 3), aI K 16 (Ou_leftAddress v)), ((q 4), aI K 16 (Ou_leftWord v)), ((q 5), aI K 16 (Ou_leftPoint v)), ((qw 0), ob 1 [.ref (qw 1), .ref (qw 2), .ref (qw 3), .ref (qw 4), .ref (qw 5), .int (Ou_stores w), .int (Ou_outputs w)]), ((qw 1), aI K 32 (Ou_memory w)), ((qw 2), aI K 40 (Ou_output w)), ((qw 3), aI K 16 (Ou_leftAddress w)), ((qw 4), aI K 16 (Ou_leftWord w)), ((qw 5), aI K 16 (Ou_leftPoint w))]) rfl ?_
  refine r_aload_n (pc := 0) cx dX2_copyFrom_0 1 rfl ?_
  refine r_get (pc := 1) cx cf_X2 6 0 rfl (by decide) rfl wd_398 dX2_copyFrom_1 ?_
  refine r_iconst (pc := 4) cx dX2_copyFrom_4 ic_0 ?_
  refine r_aload_n (pc := 5) cx dX2_copyFrom_5 0 rfl ?_
  refine r_get (pc := 6) cx cf_X2 0 0 rfl (by decide) rfl wd_398 dX2_copyFrom_6 ?_
  refine r_iconst (pc := 9) cx dX2_copyFrom_9 ic_0 ?_
  refine r_bipush (pc := 10) cx dX2_copyFrom_10 bp_32 ?_
  replace hf := nm_of hf
  obtain ⟨f1, ef1, hf⟩ := hf
  refine r_copyI (pc := 12) (ws' := [((q 0), ob 1 [.ref (q 1), .ref (q 2), .ref (q 3), .ref (q 4), .ref (q 5), .int (Ou_stores v), .int (Ou_outputs v)]), ((q 1), aI K 32 f1), ((q 2), aI K 40 (Ou_output v)), ((q 3), aI K 16 (Ou_leftAddress v)), ((q 4), aI K 16 (Ou_leftWord v)), ((q 5), aI K 16 (Ou_leftPoint v)), ((qw 0), ob 1 [.ref (qw 1), .ref (qw 2), .ref (qw 3), .ref (qw 4), .ref (qw 5), .int (Ou_stores w), .int (Ou_outputs w)]), ((qw 1), aI K 32 (Ou_memory w)), ((qw 2), aI K 40 (Ou_output w)), ((qw 3), aI K 16 (Ou_leftAddress w)), ((qw 4), aI K 16 (Ou_leftWord w)), ((qw 5), aI K 16 (Ou_leftPoint w))]) cx 7 1 rfl rfl (by decide) (nn := 32) (by decide) (by decide) (by decide) ef1 wd_505 wd_488 wd_487 wd_100 (by decide) (by decide) dX2_copyFrom_12 rfl ?_
  refine r_aload_n (pc := 15) cx dX2_copyFrom_15 1 rfl ?_
  refine r_get (pc := 16) cx cf_X2 6 1 rfl (by decide) rfl wd_401 dX2_copyFrom_16 ?_
  refine r_iconst (pc := 19) cx dX2_copyFrom_19 ic_0 ?_
  refine r_aload_n (pc := 20) cx dX2_copyFrom_20 0 rfl ?_
  refine r_get (pc := 21) cx cf_X2 0 1 rfl (by decide) rfl wd_401 dX2_copyFrom_21 ?_
  refine r_iconst (pc := 24) cx dX2_copyFrom_24 ic_0 ?_
  refine r_bipush (pc := 25) cx dX2_copyFrom_25 bp_40 ?_
  replace hf := nm_of hf
  obtain ⟨f2, ef2, hf⟩ := hf
  refine r_copyI (pc := 27) (ws' := [((q 0), ob 1 [.ref (q 1), .ref (q 2), .ref (q 3), .ref (q 4), .ref (q 5), .int (Ou_stores v), .int (Ou_outputs v)]), ((q 1), aI K 32 f1), ((q 2), aI K 40 f2), ((q 3), aI K 16 (Ou_leftAddress v)), ((q 4), aI K 16 (Ou_leftWord v)), ((q 5), aI K 16 (Ou_leftPoint v)), ((qw 0), ob 1 [.ref (qw 1), .ref (qw 2), .ref (qw 3), .ref (qw 4), .ref (qw 5), .int (Ou_stores w), .int (Ou_outputs w)]), ((qw 1), aI K 32 (Ou_memory w)), ((qw 2), aI K 40 (Ou_output w)), ((qw 3), aI K 16 (Ou_leftAddress w)), ((qw 4), aI K 16 (Ou_leftWord w)), ((qw 5), aI K 16 (Ou_leftPoint w))]) cx 8 2 rfl rfl (by decide) (nn := 40) (by decide) (by decide) (by decide) ef2 wd_505 wd_488 wd_487 wd_100 (by decide) (by decide) dX2_copyFrom_27 rfl ?_
  refine r_aload_n (pc := 30) cx dX2_copyFrom_30 1 rfl ?_
  refine r_get (pc := 31) cx cf_X2 6 2 rfl (by decide) rfl wd_402 dX2_copyFrom_31 ?_
  refine r_iconst (pc := 34) cx dX2_copyFrom_34 ic_0 ?_
  refine r_aload_n (pc := 35) cx dX2_copyFrom_35 0 rfl ?_
  refine r_get (pc := 36) cx cf_X2 0 2 rfl (by decide) rfl wd_402 dX2_copyFrom_36 ?_
  refine r_iconst (pc := 39) cx dX2_copyFrom_39 ic_0 ?_
  refine r_bipush (pc := 40) cx dX2_copyFrom_40 bp_16 ?_
  replace hf := nm_of hf
  obtain ⟨f3, ef3, hf⟩ := hf
  refine r_copyI (pc := 42) (ws' := [((q 0), ob 1 [.ref (q 1), .ref (q 2), .ref (q 3), .ref (q 4), .ref (q 5), .int (Ou_stores v), .int (Ou_outputs v)]), ((q 1), aI K 32 f1), ((q 2), aI K 40 f2), ((q 3), aI K 16 f3), ((q 4), aI K 16 (Ou_leftWord v)), ((q 5), aI K 16 (Ou_leftPoint v)), ((qw 0), ob 1 [.ref (qw 1), .ref (qw 2), .ref (qw 3), .ref (qw 4), .ref (qw 5), .int (Ou_stores w), .int (Ou_outputs w)]), ((qw 1), aI K 32 (Ou_memory w)), ((qw 2), aI K 40 (Ou_output w)), ((qw 3), aI K 16 (Ou_leftAddress w)), ((qw 4), aI K 16 (Ou_leftWord w)), ((qw 5), aI K 16 (Ou_leftPoint w))]) cx 9 3 rfl rfl (by decide) (nn := 16) (by decide) (by decide) (by decide) ef3 wd_505 wd_488 wd_487 wd_100 (by decide) (by decide) dX2_copyFrom_42 rfl ?_
  refine r_aload_n (pc := 45) cx dX2_copyFrom_45 1 rfl ?_
  refine r_get (pc := 46) cx cf_X2 6 3 rfl (by decide) rfl wd_403 dX2_copyFrom_46 ?_
  refine r_iconst (pc := 49) cx dX2_copyFrom_49 ic_0 ?_
  refine r_aload_n (pc := 50) cx dX2_copyFrom_50 0 rfl ?_
  refine r_get (pc := 51) cx cf_X2 0 3 rfl (by decide) rfl wd_403 dX2_copyFrom_51 ?_
  refine r_iconst (pc := 54) cx dX2_copyFrom_54 ic_0 ?_
  refine r_bipush (pc := 55) cx dX2_copyFrom_55 bp_16 ?_
  replace hf := nm_of hf
  obtain ⟨f4, ef4, hf⟩ := hf
  refine r_copyI (pc := 57) (ws' := [((q 0), ob 1 [.ref (q 1), .ref (q 2), .ref (q 3), .ref (q 4), .ref (q 5), .int (Ou_stores v), .int (Ou_outputs v)]), ((q 1), aI K 32 f1), ((q 2), aI K 40 f2), ((q 3), aI K 16 f3), ((q 4), aI K 16 f4), ((q 5), aI K 16 (Ou_leftPoint v)), ((qw 0), ob 1 [.ref (qw 1), .ref (qw 2), .ref (qw 3), .ref (qw 4), .ref (qw 5), .int (Ou_stores w), .int (Ou_outputs w)]), ((qw 1), aI K 32 (Ou_memory w)), ((qw 2), aI K 40 (Ou_output w)), ((qw 3), aI K 16 (Ou_leftAddress w)), ((qw 4), aI K 16 (Ou_leftWord w)), ((qw 5), aI K 16 (Ou_leftPoint w))]) cx 10 4 rfl rfl (by decide) (nn := 16) (by decide) (by decide) (by decide) ef4 wd_505 wd_488 wd_487 wd_100 (by decide) (by decide) dX2_copyFrom_57 rfl ?_
  refine r_aload_n (pc := 60) cx dX2_copyFrom_60 1 rfl ?_
  refine r_get (pc := 61) cx cf_X2 6 4 rfl (by decide) rfl wd_404 dX2_copyFrom_61 ?_
  refine r_iconst (pc := 64) cx dX2_copyFrom_64 ic_0 ?_
  refine r_aload_n (pc := 65) cx dX2_copyFrom_65 0 rfl ?_
  refine r_get (pc := 66) cx cf_X2 0 4 rfl (by decide) rfl wd_404 dX2_copyFrom_66 ?_
  refine r_iconst (pc := 69) cx dX2_copyFrom_69 ic_0 ?_
  refine r_bipush (pc := 70) cx dX2_copyFrom_70 bp_16 ?_
  replace hf := nm_of hf
  obtain ⟨f5, ef5, hf⟩ := hf
  refine r_copyI (pc := 72) (ws' := [((q 0), ob 1 [.ref (q 1), .ref (q 2), .ref (q 3), .ref (q 4), .ref (q 5), .int (Ou_stores v), .int (Ou_outputs v)]), ((q 1), aI K 32 f1), ((q 2), aI K 40 f2), ((q 3), aI K 16 f3), ((q 4), aI K 16 f4), ((q 5), aI K 16 f5), ((qw 0), ob 1 [.ref (qw 1), .ref (qw 2), .ref (qw 3), .ref (qw 4), .ref (qw 5), .int (Ou_stores w), .int (Ou_outputs w)]), ((qw 1), aI K 32 (Ou_memory w)), ((qw 2), aI K 40 (Ou_output w)), ((qw 3), aI K 16 (Ou_leftAddress w)), ((qw 4), aI K 16 (Ou_leftWord w)), ((qw 5), aI K 16 (Ou_leftPoint w))]) cx 11 5 rfl rfl (by decide) (nn := 16) (by decide) (by decide) (by decide) ef5 wd_505 wd_488 wd_487 wd_100 (by decide) (by decide) dX2_copyFrom_72 rfl ?_
  refine r_aload_n (pc := 75) cx dX2_copyFrom_75 0 rfl ?_
  refine r_aload_n (pc := 76) cx dX2_copyFrom_76 1 rfl ?_
  refine r_get (pc := 77) cx cf_X2 6 5 rfl (by decide) rfl wd_405 dX2_copyFrom_77 ?_
  replace hf := nm_of hf
  obtain ⟨x6, ex6, hf⟩ := hf
  refine r_nm ex6 ?_
  refine r_putI (pc := 80) (ws' := [((q 0), ob 1 [.ref (q 1), .ref (q 2), .ref (q 3), .ref (q 4), .ref (q 5), .int x6, .int (Ou_outputs v)]), ((q 1), aI K 32 f1), ((q 2), aI K 40 f2), ((q 3), aI K 16 f3), ((q 4), aI K 16 f4), ((q 5), aI K 16 f5), ((qw 0), ob 1 [.ref (qw 1), .ref (qw 2), .ref (qw 3), .ref (qw 4), .ref (qw 5), .int (Ou_stores w), .int (Ou_outputs w)]), ((qw 1), aI K 32 (Ou_memory w)), ((qw 2), aI K 40 (Ou_output w)), ((qw 3), aI K 16 (Ou_leftAddress w)), ((qw 4), aI K 16 (Ou_leftWord w)), ((qw 5), aI K 16 (Ou_leftPoint w))]) cx cf_X2 0 5 rfl (by decide) (Nat.le_of_ble_eq_true rfl) rfl pfd_I wd_405 dX2_copyFrom_80 rfl ?_
  refine r_aload_n (pc := 83) cx dX2_copyFrom_83 0 rfl ?_
  refine r_aload_n (pc := 84) cx dX2_copyFrom_84 1 rfl ?_
  refine r_get (pc := 85) cx cf_X2 6 6 rfl (by decide) rfl wd_407 dX2_copyFrom_85 ?_
  replace hf := nm_of hf
  obtain ⟨x7, ex7, hf⟩ := hf
  refine r_nm ex7 ?_
  refine r_putI (pc := 88) (ws' := [((q 0), ob 1 [.ref (q 1), .ref (q 2), .ref (q 3), .ref (q 4), .ref (q 5), .int x6, .int x7]), ((q 1), aI K 32 f1), ((q 2), aI K 40 f2), ((q 3), aI K 16 f3), ((q 4), aI K 16 f4), ((q 5), aI K 16 f5), ((qw 0), ob 1 [.ref (qw 1), .ref (qw 2), .ref (qw 3), .ref (qw 4), .ref (qw 5), .int (Ou_stores w), .int (Ou_outputs w)]), ((qw 1), aI K 32 (Ou_memory w)), ((qw 2), aI K 40 (Ou_output w)), ((qw 3), aI K 16 (Ou_leftAddress w)), ((qw 4), aI K 16 (Ou_leftWord w)), ((qw 5), aI K 16 (Ou_leftPoint w))]) cx cf_X2 0 6 rfl (by decide) (Nat.le_of_ble_eq_true rfl) rfl pfd_I wd_407 dX2_copyFrom_88 rfl ?_
  have hi := inj1 hf
  exact r_vret (pc := 91) cx (by rw [← hi]; (try simp only [cl_Ou, Ou_memory_mk, Ou_output_mk, Ou_leftAddress_mk, Ou_leftWord_mk, Ou_leftPoint_mk, Ou_stores_mk, Ou_outputs_mk, List.cons_append, List.nil_append, List.append_nil]) <;> rfl) dX2_copyFrom_91
theorem yv_X2_copyFrom : YV yX2_copyFrom cX2_copyFrom 2 (none) 1 := ⟨⟨by decide +kernel, by decide +kernel, by decide +kernel⟩, wd_1059, wd_98, wd_1057, wd_1058⟩
abbrev rm_Ou_receive : Room := { frames := 1, cells := 0, slots := 0, locals := 23 }
set_option maxRecDepth 100000 in
set_option maxHeartbeats 4000000 in
theorem m_Ou_receive (l : Launch) (D : va_G) (K : Nat → ClassId) (q : Nat → Nat) (v : T_Ou) (a1 : Int32) (a2 : Int32) (a3 : Int32) {o_v : T_Ou} (hf : f_Ou_receive v a1 a2 a3 = some o_v) : MV l yX2_receive cX2_receive 5 (none) rm_Ou_receive D K [.ref (q 0), .int a1, .int a2, .int a3] (cl_Ou K q v) (cl_Ou K q o_v) := by
  refine MV_of (loc0 := [(0, .ref (q 0)), (1, .int a1), (2, .int a2), (3, .int a3)]) (by decide +kernel) rfl (Nat.le_of_ble_eq_true rfl) ?_
  intro p e s m args below meth c A cx
  unfold f_Ou_receive at hf
  refine r_ws (ws' := [((q 0), ob 1 [.ref (q 1), .ref (q 2), .ref (q 3), .ref (q 4), .ref (q 5), .int (Ou_stores v), .int (Ou_outputs v)]), ((q 1), aI K 32 (Ou_memory v)), ((q 2), aI K 40 (Ou_output v)), ((q 3), aI K 16 (Ou_leftAddress v)), ((q 4), aI K 16 (Ou_leftWord v)), ((q 5), aI K 16 (Ou_leftPoint v))]) rfl ?_
  refine r_aload_n (pc := 0) cx dX2_receive_0 0 rfl ?_
  refine r_get (pc := 1) cx cf_X2 0 5 rfl (by decide) rfl wd_405 dX2_receive_1 ?_
  refine r_aload_n (pc := 4) cx dX2_receive_4 0 rfl ?_
  refine r_get (pc := 5) cx cf_X2 0 6 rfl (by decide) rfl wd_407 dX2_receive_5 ?_
  refine r_iadd (pc := 8) cx dX2_receive_8 ?_
  refine r_bipush (pc := 9) cx dX2_receive_9 bp_15 ?_
  refine r_iand (pc := 11) cx dX2_receive_11 ?_
  replace hf := nm_of hf
  obtain ⟨x1, ex1, hf⟩ := hf
  refine r_nm ex1 ?_
  refine r_istore (pc := 12) (loc' := [(4, .int x1), (0, .ref (q 0)), (1, .int a1), (2, .int a2), (3, .int a3)]) cx dX2_receive_12 (by decide) rfl ?_
  refine r_aload_n (pc := 14) cx dX2_receive_14 1 rfl ?_
  refine r_get (pc := 15) cx cf_X2 0 2 rfl (by decide) rfl wd_402 dX2_receive_15 ?_
  refine r_iload (pc := 18) cx dX2_receive_18 0 rfl ?_
  refine r_iload_n (pc := 20) cx dX2_receive_20 2 rfl ?_
  refine r_bipush (pc := 21) cx dX2_receive_21 bp_32 ?_
  refine r_mmin (pc := 23) cx wd_896 ys_J9_min_7cf53 (by decide) (Nat.le_of_ble_eq_true rfl) dX2_receive_23 ?_
  replace hf := nm_of hf
  obtain ⟨x2, ex2, hf⟩ := hf
  refine r_nm ex2 ?_
  replace hf := nm_of hf
  obtain ⟨f3, ef3, hf⟩ := hf
  refine r_iast (pc := 26) (ws' := [((q 0), ob 1 [.ref (q 1), .ref (q 2), .ref (q 3), .ref (q 4), .ref (q 5), .int (Ou_stores v), .int (Ou_outputs v)]), ((q 1), aI K 32 (Ou_memory v)), ((q 2), aI K 40 (Ou_output v)), ((q 3), aI K 16 f3), ((q 4), aI K 16 (Ou_leftWord v)), ((q 5), aI K 16 (Ou_leftPoint v))]) cx 3 rfl (by rw [ex1]; exact ix_and15 _) dX2_receive_26 ef3 rfl ?_
  refine r_aload_n (pc := 27) cx dX2_receive_27 1 rfl ?_
  refine r_get (pc := 28) cx cf_X2 0 3 rfl (by decide) rfl wd_403 dX2_receive_28 ?_
  refine r_iload (pc := 31) cx dX2_receive_31 0 rfl ?_
  refine r_iload_n (pc := 33) cx dX2_receive_33 3 rfl ?_
  replace hf := nm_of hf
  obtain ⟨f4, ef4, hf⟩ := hf
  refine r_iast (pc := 34) (ws' := [((q 0), ob 1 [.ref (q 1), .ref (q 2), .ref (q 3), .ref (q 4), .ref (q 5), .int (Ou_stores v), .int (Ou_outputs v)]), ((q 1), aI K 32 (Ou_memory v)), ((q 2), aI K 40 (Ou_output v)), ((q 3), aI K 16 f3), ((q 4), aI K 16 f4), ((q 5), aI K 16 (Ou_leftPoint v))]) cx 4 rfl (by rw [ex1]; exact ix_and15 _) dX2_receive_34 ef4 rfl ?_
  refine r_aload_n (pc := 35) cx dX2_receive_35 1 rfl ?_
  refine r_get (pc := 36) cx cf_X2 0 4 rfl (by decide) rfl wd_404 dX2_receive_36 ?_
  refine r_iload (pc := 39) cx dX2_receive_39 0 rfl ?_
  refine r_iload_n (pc := 41) cx dX2_receive_41 4 rfl ?_
  replace hf := nm_of hf
  obtain ⟨f5, ef5, hf⟩ := hf
  refine r_iast (pc := 42) (ws' := [((q 0), ob 1 [.ref (q 1), .ref (q 2), .ref (q 3), .ref (q 4), .ref (q 5), .int (Ou_stores v), .int (Ou_outputs v)]), ((q 1), aI K 32 (Ou_memory v)), ((q 2), aI K 40 (Ou_output v)), ((q 3), aI K 16 f3), ((q 4), aI K 16 f4), ((q 5), aI K 16 f5)]) cx 5 rfl (by rw [ex1]; exact ix_and15 _) dX2_receive_42 ef5 rfl ?_
  refine r_iload_n (pc := 43) cx dX2_receive_43 2 rfl ?_
  refine r_bipush (pc := 44) cx dX2_receive_44 bp_32 ?_
  refine r_icmp_ge (pc := 46) (tgt := 72) cx dX2_receive_46 (by decide) (fun h6 => ?_) (fun h6 => ?_)
  · replace hf := ifp h6 hf
    refine r_aload_n (pc := 72) cx dX2_receive_72 1 rfl ?_
    refine r_get (pc := 73) cx cf_X2 0 1 rfl (by decide) rfl wd_401 dX2_receive_73 ?_
    refine r_aload_n (pc := 76) cx dX2_receive_76 1 rfl ?_
    refine r_get (pc := 77) cx cf_X2 0 6 rfl (by decide) rfl wd_407 dX2_receive_77 ?_
    refine r_bipush (pc := 80) cx dX2_receive_80 bp_40 ?_
    refine r_fmod (pc := 82) cx (by decide) wd_897 ys_J9_floorMod_7cf53 (by decide) (Nat.le_of_ble_eq_true rfl) dX2_receive_82 ?_
    replace hf := nm_of hf
    obtain ⟨x7, ex7, hf⟩ := hf
    refine r_nm ex7 ?_
    refine r_iload_n (pc := 85) cx dX2_receive_85 3 rfl ?_
    replace hf := chk_of hf
    obtain ⟨h8, hf⟩ := hf
    replace hf := nm_of hf
    obtain ⟨f9, ef9, hf⟩ := hf
    refine r_iast (pc := 86) (ws' := [((q 0), ob 1 [.ref (q 1), .ref (q 2), .ref (q 3), .ref (q 4), .ref (q 5), .int (Ou_stores v), .int (Ou_outputs v)]), ((q 1), aI K 32 (Ou_memory v)), ((q 2), aI K 40 f9), ((q 3), aI K 16 f3), ((q 4), aI K 16 f4), ((q 5), aI K 16 f5)]) cx 2 rfl h8 dX2_receive_86 ef9 rfl ?_
    refine r_aload_n (pc := 87) cx dX2_receive_87 1 rfl ?_
    refine r_dup (pc := 88) cx dX2_receive_88 rfl ?_
    refine r_get (pc := 89) cx cf_X2 0 6 rfl (by decide) rfl wd_407 dX2_receive_89 ?_
    refine r_iconst (pc := 92) cx dX2_receive_92 ic_1 ?_
    refine r_iadd (pc := 93) cx dX2_receive_93 ?_
    replace hf := nm_of hf
    obtain ⟨x10, ex10, hf⟩ := hf
    refine r_nm ex10 ?_
    refine r_putI (pc := 94) (ws' := [((q 0), ob 1 [.ref (q 1), .ref (q 2), .ref (q 3), .ref (q 4), .ref (q 5), .int (Ou_stores v), .int x10]), ((q 1), aI K 32 (Ou_memory v)), ((q 2), aI K 40 f9), ((q 3), aI K 16 f3), ((q 4), aI K 16 f4), ((q 5), aI K 16 f5)]) cx cf_X2 0 6 rfl (by decide) (Nat.le_of_ble_eq_true rfl) rfl pfd_I wd_407 dX2_receive_94 rfl ?_
    have hi := inj1 hf
    exact r_vret (pc := 97) cx (by rw [← hi]; (try simp only [cl_Ou, Ou_memory_mk, Ou_output_mk, Ou_leftAddress_mk, Ou_leftWord_mk, Ou_leftPoint_mk, Ou_stores_mk, Ou_outputs_mk, List.cons_append, List.nil_append, List.append_nil]) <;> rfl) dX2_receive_97
  · replace hf := ifn h6 hf
    refine r_aload_n (pc := 49) cx dX2_receive_49 1 rfl ?_
    refine r_get (pc := 50) cx cf_X2 0 0 rfl (by decide) rfl wd_398 dX2_receive_50 ?_
    refine r_iload_n (pc := 53) cx dX2_receive_53 2 rfl ?_
    refine r_bipush (pc := 54) cx dX2_receive_54 bp_31 ?_
    refine r_iand (pc := 56) cx dX2_receive_56 ?_
    refine r_iload_n (pc := 57) cx dX2_receive_57 3 rfl ?_
    replace hf := nm_of hf
    obtain ⟨f11, ef11, hf⟩ := hf
    refine r_iast (pc := 58) (ws' := [((q 0), ob 1 [.ref (q 1), .ref (q 2), .ref (q 3), .ref (q 4), .ref (q 5), .int (Ou_stores v), .int (Ou_outputs v)]), ((q 1), aI K 32 f11), ((q 2), aI K 40 (Ou_output v)), ((q 3), aI K 16 f3), ((q 4), aI K 16 f4), ((q 5), aI K 16 f5)]) cx 1 rfl (ix_and31 _) dX2_receive_58 ef11 rfl ?_
    refine r_aload_n (pc := 59) cx dX2_receive_59 1 rfl ?_
    refine r_dup (pc := 60) cx dX2_receive_60 rfl ?_
    refine r_get (pc := 61) cx cf_X2 0 5 rfl (by decide) rfl wd_405 dX2_receive_61 ?_
    refine r_iconst (pc := 64) cx dX2_receive_64 ic_1 ?_
    refine r_iadd (pc := 65) cx dX2_receive_65 ?_
    replace hf := nm_of hf
    obtain ⟨x12, ex12, hf⟩ := hf
    refine r_nm ex12 ?_
    refine r_putI (pc := 66) (ws' := [((q 0), ob 1 [.ref (q 1), .ref (q 2), .ref (q 3), .ref (q 4), .ref (q 5), .int x12, .int (Ou_outputs v)]), ((q 1), aI K 32 f11), ((q 2), aI K 40 (Ou_output v)), ((q 3), aI K 16 f3), ((q 4), aI K 16 f4), ((q 5), aI K 16 f5)]) cx cf_X2 0 5 rfl (by decide) (Nat.le_of_ble_eq_true rfl) rfl pfd_I wd_405 dX2_receive_66 rfl ?_
    refine r_goto (pc := 69) (tgt := 97) cx dX2_receive_69 (by decide) ?_
    have hi := inj1 hf
    exact r_vret (pc := 97) cx (by rw [← hi]; (try simp only [cl_Ou, Ou_memory_mk, Ou_output_mk, Ou_leftAddress_mk, Ou_leftWord_mk, Ou_leftPoint_mk, Ou_stores_mk, Ou_outputs_mk, List.cons_append, List.nil_append, List.append_nil]) <;> rfl) dX2_receive_97
theorem yv_X2_receive : YV yX2_receive cX2_receive 5 (none) 3 := ⟨⟨by decide +kernel, by decide +kernel, by decide +kernel⟩, wd_895, wd_98, wd_893, wd_894⟩
abbrev rm_Ou_keptOutput : Room := { frames := 1, cells := 0, slots := 0, locals := 23 }
set_option maxRecDepth 100000 in
set_option maxHeartbeats 4000000 in
theorem m_Ou_keptOutput (l : Launch) (D : va_G) (K : Nat → ClassId) (q : Nat → Nat) (v : T_Ou) (a1 : Int32) {r_ : Int32} (hf : f_Ou_keptOutput v a1 = some r_) : MI l yX2_keptOutput cX2_keptOutput 3 (some .int) rm_Ou_keptOutput D K [.ref (q 0), .int a1] (cl_Ou K q v) r_ (cl_Ou K q v) := by
  refine MI_of (loc0 := [(0, .ref (q 0)), (1, .int a1)]) (by decide +kernel) rfl (Nat.le_of_ble_eq_true rfl) ?_
  intro p e s m args below meth c A cx
  unfold f_Ou_keptOutput at hf
  refine r_ws (ws' := [((q 0), ob 1 [.ref (q 1), .ref (q 2), .ref (q 3), .ref (q 4), .ref (q 5), .int (Ou_stores v), .int (Ou_outputs v)]), ((q 1), aI K 32 (Ou_memory v)), ((q 2), aI K 40 (Ou_output v)), ((q 3), aI K 16 (Ou_leftAddress v)), ((q 4), aI K 16 (Ou_leftWord v)), ((q 5), aI K 16 (Ou_leftPoint v))]) rfl ?_
  refine r_aload_n (pc := 0) cx dX2_keptOutput_0 0 rfl ?_
  refine r_get (pc := 1) cx cf_X2 0 6 rfl (by decide) rfl wd_407 dX2_keptOutput_1 ?_
  refine r_bipush (pc := 4) cx dX2_keptOutput_4 bp_40 ?_
  refine r_mmin (pc := 6) cx wd_896 ys_J9_min_7cf53 (by decide) (Nat.le_of_ble_eq_true rfl) dX2_keptOutput_6 ?_
  replace hf := nm_of hf
  obtain ⟨x1, ex1, hf⟩ := hf
  refine r_nm ex1 ?_
  refine r_istore_n (pc := 9) (loc' := [(2, .int x1), (0, .ref (q 0)), (1, .int a1)]) cx dX2_keptOutput_9 rfl (by decide) rfl ?_
  refine r_iload_n (pc := 10) cx dX2_keptOutput_10 2 rfl ?_
  refine r_if_lt (pc := 11) (tgt := 19) cx dX2_keptOutput_11 (by decide) (fun h2 => ?_) (fun h2 => ?_)
  · replace hf := ifp h2 hf
    refine r_iconst (pc := 19) cx dX2_keptOutput_19 ic_0 ?_
    refine r_goto (pc := 20) (tgt := 41) cx dX2_keptOutput_20 (by decide) ?_
    have hi := inj1 hf
    exact r_iret (pc := 41) cx hi rfl dX2_keptOutput_41
  · replace hf := ifn h2 hf
    refine r_iload_n (pc := 14) cx dX2_keptOutput_14 2 rfl ?_
    refine r_iload_n (pc := 15) cx dX2_keptOutput_15 0 rfl ?_
    refine r_icmp_lt (pc := 16) (tgt := 23) cx dX2_keptOutput_16 (by decide) (fun h3 => ?_) (fun h3 => ?_)
    · replace hf := ifp h3 hf
      refine r_aload_n (pc := 23) cx dX2_keptOutput_23 1 rfl ?_
      refine r_get (pc := 24) cx cf_X2 0 1 rfl (by decide) rfl wd_401 dX2_keptOutput_24 ?_
      refine r_aload_n (pc := 27) cx dX2_keptOutput_27 1 rfl ?_
      refine r_get (pc := 28) cx cf_X2 0 6 rfl (by decide) rfl wd_407 dX2_keptOutput_28 ?_
      refine r_iload_n (pc := 31) cx dX2_keptOutput_31 0 rfl ?_
      refine r_isub (pc := 32) cx dX2_keptOutput_32 ?_
      refine r_iload_n (pc := 33) cx dX2_keptOutput_33 2 rfl ?_
      refine r_iadd (pc := 34) cx dX2_keptOutput_34 ?_
      refine r_bipush (pc := 35) cx dX2_keptOutput_35 bp_40 ?_
      refine r_fmod (pc := 37) cx (by decide) wd_897 ys_J9_floorMod_7cf53 (by decide) (Nat.le_of_ble_eq_true rfl) dX2_keptOutput_37 ?_
      replace hf := nm_of hf
      obtain ⟨x4, ex4, hf⟩ := hf
      refine r_nm ex4 ?_
      replace hf := chk_of hf
      obtain ⟨h5, hf⟩ := hf
      refine r_iald (pc := 40) cx 2 rfl h5 dX2_keptOutput_40 ?_
      have hi := inj1 hf
      exact r_iret (pc := 41) cx hi rfl dX2_keptOutput_41
    · replace hf := ifn h3 hf
      refine r_iconst (pc := 19) cx dX2_keptOutput_19 ic_0 ?_
      refine r_goto (pc := 20) (tgt := 41) cx dX2_keptOutput_20 (by decide) ?_
      have hi := inj1 hf
      exact r_iret (pc := 41) cx hi rfl dX2_keptOutput_41
theorem yv_X2_keptOutput : YV yX2_keptOutput cX2_keptOutput 3 (some .int) 1 := ⟨⟨by decide +kernel, by decide +kernel, by decide +kernel⟩, wd_968, wd_98, wd_966, wd_967⟩
abbrev rm_Ou_journalSize : Room := { frames := 1, cells := 0, slots := 0, locals := 23 }
set_option maxRecDepth 100000 in
set_option maxHeartbeats 4000000 in
theorem m_Ou_journalSize (l : Launch) (D : va_G) (K : Nat → ClassId) (q : Nat → Nat) (v : T_Ou) {r_ : Int32} (hf : f_Ou_journalSize v = some r_) : MI l yX2_journalSize cX2_journalSize 1 (some .int) rm_Ou_journalSize D K [.ref (q 0)] (cl_Ou K q v) r_ (cl_Ou K q v) := by
  refine MI_of (loc0 := [(0, .ref (q 0))]) (by decide +kernel) rfl (Nat.le_of_ble_eq_true rfl) ?_
  intro p e s m args below meth c A cx
  unfold f_Ou_journalSize at hf
  refine r_ws (ws' := [((q 0), ob 1 [.ref (q 1), .ref (q 2), .ref (q 3), .ref (q 4), .ref (q 5), .int (Ou_stores v), .int (Ou_outputs v)]), ((q 1), aI K 32 (Ou_memory v)), ((q 2), aI K 40 (Ou_output v)), ((q 3), aI K 16 (Ou_leftAddress v)), ((q 4), aI K 16 (Ou_leftWord v)), ((q 5), aI K 16 (Ou_leftPoint v))]) rfl ?_
  refine r_aload_n (pc := 0) cx dX2_journalSize_0 0 rfl ?_
  refine r_get (pc := 1) cx cf_X2 0 5 rfl (by decide) rfl wd_405 dX2_journalSize_1 ?_
  refine r_aload_n (pc := 4) cx dX2_journalSize_4 0 rfl ?_
  refine r_get (pc := 5) cx cf_X2 0 6 rfl (by decide) rfl wd_407 dX2_journalSize_5 ?_
  refine r_iadd (pc := 8) cx dX2_journalSize_8 ?_
  refine r_bipush (pc := 9) cx dX2_journalSize_9 bp_16 ?_
  refine r_mmin (pc := 11) cx wd_896 ys_J9_min_7cf53 (by decide) (Nat.le_of_ble_eq_true rfl) dX2_journalSize_11 ?_
  replace hf := nm_of hf
  obtain ⟨x1, ex1, hf⟩ := hf
  refine r_nm ex1 ?_
  have hi := inj1 hf
  exact r_iret (pc := 14) cx hi rfl dX2_journalSize_14
theorem yv_X2_journalSize : YV yX2_journalSize cX2_journalSize 1 (some .int) 0 := ⟨⟨by decide +kernel, by decide +kernel, by decide +kernel⟩, wd_1154, wd_98, wd_1152, wd_1153⟩
abbrev rm_Ou_journalPart : Room := { frames := 2, cells := 0, slots := 0, locals := 43 }
set_option maxRecDepth 100000 in
set_option maxHeartbeats 4000000 in
theorem m_Ou_journalPart (l : Launch) (D : va_G) (K : Nat → ClassId) (q : Nat → Nat) (v : T_Ou) (a1 : Int32) (a2 : Int32) {r_ : Int32} (hf : f_Ou_journalPart v a1 a2 = some r_) : MI l yX2_journalPart cX2_journalPart 4 (some .int) rm_Ou_journalPart D K [.ref (q 0), .int a1, .int a2] (cl_Ou K q v) r_ (cl_Ou K q v) := by
  refine MI_of (loc0 := [(0, .ref (q 0)), (1, .int a1), (2, .int a2)]) (by decide +kernel) rfl (Nat.le_of_ble_eq_true rfl) ?_
  intro p e s m args below meth c A cx
  unfold f_Ou_journalPart at hf
  refine r_ws (ws' := [((q 0), ob 1 [.ref (q 1), .ref (q 2), .ref (q 3), .ref (q 4), .ref (q 5), .int (Ou_stores v), .int (Ou_outputs v)]), ((q 1), aI K 32 (Ou_memory v)), ((q 2), aI K 40 (Ou_output v)), ((q 3), aI K 16 (Ou_leftAddress v)), ((q 4), aI K 16 (Ou_leftWord v)), ((q 5), aI K 16 (Ou_leftPoint v))]) rfl ?_
  refine r_iload_n (pc := 0) cx dX2_journalPart_0 1 rfl ?_
  refine r_if_lt (pc := 1) (tgt := 12) cx dX2_journalPart_1 (by decide) (fun h1 => ?_) (fun h1 => ?_)
  · replace hf := ifp h1 hf
    refine r_iconst (pc := 12) cx dX2_journalPart_12 ic_0 ?_
    have hi := inj1 hf
    exact r_iret (pc := 13) cx hi rfl dX2_journalPart_13
  · replace hf := ifn h1 hf
    refine r_iload_n (pc := 4) cx dX2_journalPart_4 1 rfl ?_
    refine r_aload_n (pc := 5) cx dX2_journalPart_5 0 rfl ?_
    replace hf := bd_of hf
    obtain ⟨r2, hc3, hf⟩ := hf
    refine r_Vi (pc := 6) (ws' := [((q 0), ob 1 [.ref (q 1), .ref (q 2), .ref (q 3), .ref (q 4), .ref (q 5), .int (Ou_stores v), .int (Ou_outputs v)]), ((q 1), aI K 32 (Ou_memory v)), ((q 2), aI K 40 (Ou_output v)), ((q 3), aI K 16 (Ou_leftAddress v)), ((q 4), aI K 16 (Ou_leftWord v)), ((q 5), aI K 16 (Ou_leftPoint v))]) (wc := [((q 0), ob 1 [.ref (q 1), .ref (q 2), .ref (q 3), .ref (q 4), .ref (q 5), .int (Ou_stores v), .int (Ou_outputs v)]), ((q 1), aI K 32 (Ou_memory v)), ((q 2), aI K 40 (Ou_output v)), ((q 3), aI K 16 (Ou_leftAddress v)), ((q 4), aI K 16 (Ou_leftWord v)), ((q 5), aI K 16 (Ou_leftPoint v))]) (nn := 6) cx [] [.int a1] (m_Ou_journalSize l D K q v hc3) rfl yv_X2_journalSize wd_1151 ⟨rfl, rfl⟩ (by decide) (fr_s (j := 0) rfl rfl rfl (fr_s (j := 1) rfl rfl rfl (fr_s (j := 2) rfl rfl rfl (fr_s (j := 3) rfl rfl rfl (fr_s (j := 4) rfl rfl rfl (fr_s (j := 5) rfl rfl rfl (fr_n))))))) rfl (by decide) 0 rfl rfl rfl (Nat.le_of_ble_eq_true rfl) dX2_journalPart_6 ?_
    refine r_icmp_lt (pc := 9) (tgt := 14) cx dX2_journalPart_9 (by decide) (fun h4 => ?_) (fun h4 => ?_)
    · replace hf := ifp h4 hf
      refine r_aload_n (pc := 14) cx dX2_journalPart_14 0 rfl ?_
      refine r_get (pc := 15) cx cf_X2 0 5 rfl (by decide) rfl wd_405 dX2_journalPart_15 ?_
      refine r_aload_n (pc := 18) cx dX2_journalPart_18 0 rfl ?_
      refine r_get (pc := 19) cx cf_X2 0 6 rfl (by decide) rfl wd_407 dX2_journalPart_19 ?_
      refine r_iadd (pc := 22) cx dX2_journalPart_22 ?_
      refine r_aload_n (pc := 23) cx dX2_journalPart_23 0 rfl ?_
      replace hf := bd_of hf
      obtain ⟨r5, hc6, hf⟩ := hf
      refine r_Vi (pc := 24) (ws' := [((q 0), ob 1 [.ref (q 1), .ref (q 2), .ref (q 3), .ref (q 4), .ref (q 5), .int (Ou_stores v), .int (Ou_outputs v)]), ((q 1), aI K 32 (Ou_memory v)), ((q 2), aI K 40 (Ou_output v)), ((q 3), aI K 16 (Ou_leftAddress v)), ((q 4), aI K 16 (Ou_leftWord v)), ((q 5), aI K 16 (Ou_leftPoint v))]) (wc := [((q 0), ob 1 [.ref (q 1), .ref (q 2), .ref (q 3), .ref (q 4), .ref (q 5), .int (Ou_stores v), .int (Ou_outputs v)]), ((q 1), aI K 32 (Ou_memory v)), ((q 2), aI K 40 (Ou_output v)), ((q 3), aI K 16 (Ou_leftAddress v)), ((q 4), aI K 16 (Ou_leftWord v)), ((q 5), aI K 16 (Ou_leftPoint v))]) (nn := 6) cx [] [.int ((Ou_stores v) + (Ou_outputs v))] (m_Ou_journalSize l D K q v hc6) rfl yv_X2_journalSize wd_1151 ⟨rfl, rfl⟩ (by decide) (fr_s (j := 0) rfl rfl rfl (fr_s (j := 1) rfl rfl rfl (fr_s (j := 2) rfl rfl rfl (fr_s (j := 3) rfl rfl rfl (fr_s (j := 4) rfl rfl rfl (fr_s (j := 5) rfl rfl rfl (fr_n))))))) rfl (by decide) 0 rfl rfl rfl (Nat.le_of_ble_eq_true rfl) dX2_journalPart_24 ?_
      refine r_isub (pc := 27) cx dX2_journalPart_27 ?_
      refine r_iload_n (pc := 28) cx dX2_journalPart_28 1 rfl ?_
      refine r_iadd (pc := 29) cx dX2_journalPart_29 ?_
      refine r_bipush (pc := 30) cx dX2_journalPart_30 bp_15 ?_
      refine r_iand (pc := 32) cx dX2_journalPart_32 ?_
      replace hf := nm_of hf
      obtain ⟨x7, ex7, hf⟩ := hf
      refine r_nm ex7 ?_
      refine r_istore_n (pc := 33) (loc' := [(3, .int x7), (0, .ref (q 0)), (1, .int a1), (2, .int a2)]) cx dX2_journalPart_33 rfl (by decide) rfl ?_
      refine r_iload_n (pc := 34) cx dX2_journalPart_34 3 rfl ?_
      by_cases h8 : a2 = (0 : Int32)
      · replace hf := ifp h8 hf
        refine r_tin (pc := 35) (tgt := 60) cx (0 : Int32) h8 dX2_journalPart_35 (by decide) (by decide) rfl (by decide) ?_
        refine r_aload_n (pc := 60) cx dX2_journalPart_60 1 rfl ?_
        refine r_get (pc := 61) cx cf_X2 0 2 rfl (by decide) rfl wd_402 dX2_journalPart_61 ?_
        refine r_iload_n (pc := 64) cx dX2_journalPart_64 0 rfl ?_
        refine r_iald (pc := 65) cx 3 rfl (by rw [ex7]; exact ix_and15 _) dX2_journalPart_65 ?_
        have hi := inj1 hf
        exact r_iret (pc := 66) cx hi rfl dX2_journalPart_66
      · replace hf := ifn h8 hf
        by_cases h9 : a2 = (1 : Int32)
        · replace hf := ifp h9 hf
          refine r_tin (pc := 35) (tgt := 67) cx (1 : Int32) h9 dX2_journalPart_35 (by decide) (by decide) rfl (by decide) ?_
          refine r_aload_n (pc := 67) cx dX2_journalPart_67 1 rfl ?_
          refine r_get (pc := 68) cx cf_X2 0 3 rfl (by decide) rfl wd_403 dX2_journalPart_68 ?_
          refine r_iload_n (pc := 71) cx dX2_journalPart_71 0 rfl ?_
          refine r_iald (pc := 72) cx 4 rfl (by rw [ex7]; exact ix_and15 _) dX2_journalPart_72 ?_
          have hi := inj1 hf
          exact r_iret (pc := 73) cx hi rfl dX2_journalPart_73
        · replace hf := ifn h9 hf
          by_cases h10 : a2 = (2 : Int32)
          · replace hf := ifp h10 hf
            refine r_tin (pc := 35) (tgt := 74) cx (2 : Int32) h10 dX2_journalPart_35 (by decide) (by decide) rfl (by decide) ?_
            refine r_aload_n (pc := 74) cx dX2_journalPart_74 1 rfl ?_
            refine r_get (pc := 75) cx cf_X2 0 4 rfl (by decide) rfl wd_404 dX2_journalPart_75 ?_
            refine r_iload_n (pc := 78) cx dX2_journalPart_78 0 rfl ?_
            refine r_iald (pc := 79) cx 5 rfl (by rw [ex7]; exact ix_and15 _) dX2_journalPart_79 ?_
            have hi := inj1 hf
            exact r_iret (pc := 80) cx hi rfl dX2_journalPart_80
          · replace hf := ifn h10 hf
            refine r_tout (pc := 35) (tgt := 81) cx dX2_journalPart_35 (by
              have nh8 := toInt_ne h8
              have mh8 : (0 : Int32).toInt = 0 := by decide
              rw [mh8] at nh8
              have nh9 := toInt_ne h9
              have mh9 : (1 : Int32).toInt = 1 := by decide
              rw [mh9] at nh9
              have nh10 := toInt_ne h10
              have mh10 : (2 : Int32).toInt = 2 := by decide
              rw [mh10] at nh10
              omega) (by decide) ?_
            refine r_iconst (pc := 81) cx dX2_journalPart_81 ic_0 ?_
            have hi := inj1 hf
            exact r_iret (pc := 82) cx hi rfl dX2_journalPart_82
    · replace hf := ifn h4 hf
      refine r_iconst (pc := 12) cx dX2_journalPart_12 ic_0 ?_
      have hi := inj1 hf
      exact r_iret (pc := 13) cx hi rfl dX2_journalPart_13
theorem yv_X2_journalPart : YV yX2_journalPart cX2_journalPart 4 (some .int) 2 := ⟨⟨by decide +kernel, by decide +kernel, by decide +kernel⟩, wd_1150, wd_98, wd_1148, wd_1149⟩
abbrev rm_Pg_clear : Room := { frames := 0, cells := 0, slots := 0, locals := 0 }
set_option maxRecDepth 100000 in
set_option maxHeartbeats 4000000 in
theorem m_Pg_clear (l : Launch) (D : va_G) (K : Nat → ClassId) (q : Nat → Nat) (v : T_Pg) {o_v : T_Pg} (hf : f_Pg_clear v = some o_v) : MV l yX4_clear cX4_clear 2 (none) rm_Pg_clear D K [.ref (q 0)] (cl_Pg K q v) (cl_Pg K q o_v) := by
  refine MV_of (loc0 := [(0, .ref (q 0))]) (by decide +kernel) rfl (Nat.le_of_ble_eq_true rfl) ?_
  intro p e s m args below meth c A cx
  unfold f_Pg_clear at hf
  refine r_ws (ws' := [((q 0), ob 3 [.ref (q 1), .ref (q 2), .ref (q 3), .ref (q 4), .ref (q 5), .ref (q 6), .ref (q 7), .ref (q 8), .int (Pg_nameCount v), .int (Pg_size v), .int (Pg_lines v)]), ((q 1), aI K 64 (Pg_code v)), ((q 2), aI K 64 (Pg_first v)), ((q 3), aI K 64 (Pg_second v)), ((q 4), aI K 64 (Pg_third v)), ((q 5), aI K 8 (Pg_rules v)), ((q 6), aI K 32 (Pg_data v)), ((q 7), aI K 140 (Pg_names v)), ((q 8), aI K 140 (Pg_namedPlaces v))]) rfl ?_
  refine r_iconst (pc := 0) cx dX4_clear_0 ic_0 ?_
  refine r_istore_n (pc := 1) (loc' := [(1, .int (0 : Int32)), (0, .ref (q 0))]) cx dX4_clear_1 rfl (by decide) rfl ?_
  have hL2 : ∀ (k2_21 : (Nat → Int32) → Option (T_Pg)), (∀ (f3 : (Nat → Int32)), k2_21 f3 = some o_v → WW p l e rm_Pg_clear s m args below meth c D A 2 0 0 (MQ below (QV D K A (cl_Pg K q o_v)) args s 0 0 A) ([((q 0), ob 3 [.ref (q 1), .ref (q 2), .ref (q 3), .ref (q 4), .ref (q 5), .ref (q 6), .ref (q 7), .ref (q 8), .int (Pg_nameCount v), .int (Pg_size v), .int (Pg_lines v)]), ((q 1), aI K 64 f3), ((q 2), aI K 64 (Pg_first v)), ((q 3), aI K 64 (Pg_second v)), ((q 4), aI K 64 (Pg_third v)), ((q 5), aI K 8 (Pg_rules v)), ((q 6), aI K 32 (Pg_data v)), ((q 7), aI K 140 (Pg_names v)), ((q 8), aI K 140 (Pg_namedPlaces v))]) ([(0, .ref (q 0))]) ([]) 21) → ∀ (n2 : Nat) (x1 : Int32) (f2 : (Nat → Int32)), f_Pg_clear_L2 k2_21 n2 x1 f2 = some o_v → WW p l e rm_Pg_clear s m args below meth c D A 2 0 0 (MQ below (QV D K A (cl_Pg K q o_v)) args s 0 0 A) ([((q 0), ob 3 [.ref (q 1), .ref (q 2), .ref (q 3), .ref (q 4), .ref (q 5), .ref (q 6), .ref (q 7), .ref (q 8), .int (Pg_nameCount v), .int (Pg_size v), .int (Pg_lines v)]), ((q 1), aI K 64 f2), ((q 2), aI K 64 (Pg_first v)), ((q 3), aI K 64 (Pg_second v)), ((q 4), aI K 64 (Pg_third v)), ((q 5), aI K 8 (Pg_rules v)), ((q 6), aI K 32 (Pg_data v)), ((q 7), aI K 140 (Pg_names v)), ((q 8), aI K 140 (Pg_namedPlaces v))]) ([(0, .ref (q 0)), (1, .int x1)]) ([]) 2 := by
    clear hf
    intro k2_21 hk2_21 n2
    induction n2 with
    | zero => intro x1 f2 hf; exact (nomatch (show (none : Option (T_Pg)) = some _ from hf))
    | succ n2 ih2 =>
      intro x1 f2 hf
      rw [f_Pg_clear_L2] at hf
      refine r_iload_n (pc := 2) cx dX4_clear_2 1 rfl ?_
      refine r_bipush (pc := 3) cx dX4_clear_3 bp_64 ?_
      refine r_icmp_ge (pc := 5) (tgt := 21) cx dX4_clear_5 (by decide) (fun h4 => ?_) (fun h4 => ?_)
      · replace hf := ifp h4 hf
        refine r_loc (loc' := [(0, .ref (q 0))]) [0] rfl ?_
        exact hk2_21 _ hf
      · replace hf := ifn h4 hf
        refine r_aload_n (pc := 8) cx dX4_clear_8 0 rfl ?_
        refine r_get (pc := 9) cx cf_X4 0 0 rfl (by decide) rfl wd_132 dX4_clear_9 ?_
        refine r_iload_n (pc := 12) cx dX4_clear_12 1 rfl ?_
        refine r_iconst (pc := 13) cx dX4_clear_13 ic_0 ?_
        replace hf := chk_of hf
        obtain ⟨h5, hf⟩ := hf
        replace hf := nm_of hf
        obtain ⟨f6, ef6, hf⟩ := hf
        refine r_iast (pc := 14) (ws' := [((q 0), ob 3 [.ref (q 1), .ref (q 2), .ref (q 3), .ref (q 4), .ref (q 5), .ref (q 6), .ref (q 7), .ref (q 8), .int (Pg_nameCount v), .int (Pg_size v), .int (Pg_lines v)]), ((q 1), aI K 64 f6), ((q 2), aI K 64 (Pg_first v)), ((q 3), aI K 64 (Pg_second v)), ((q 4), aI K 64 (Pg_third v)), ((q 5), aI K 8 (Pg_rules v)), ((q 6), aI K 32 (Pg_data v)), ((q 7), aI K 140 (Pg_names v)), ((q 8), aI K 140 (Pg_namedPlaces v))]) cx 1 rfl h5 dX4_clear_14 ef6 rfl ?_
        replace hf := nm_of hf
        obtain ⟨x7, ex7, hf⟩ := hf
        refine r_iinc (pc := 15) (loc' := [(1, .int x7), (0, .ref (q 0))]) (v := x7) cx dX4_clear_15 1 rfl ((congrArg (fun z => x1 + z) ic_1).trans ex7.symm) (by decide) rfl ?_
        refine r_goto (pc := 18) (tgt := 2) cx dX4_clear_18 (by decide) ?_
        refine r_loc (loc' := [(0, .ref (q 0)), (1, .int x7)]) [1, 0] rfl ?_
        exact ih2 _ _ hf
  refine r_loc (loc' := [(0, .ref (q 0)), (1, .int (0 : Int32))]) [1, 0] rfl ?_
  refine hL2 _ (fun f3 hf => ?_) _ _ _ hf
  refine r_iconst (pc := 21) cx dX4_clear_21 ic_0 ?_
  refine r_istore_n (pc := 22) (loc' := [(1, .int (0 : Int32)), (0, .ref (q 0))]) cx dX4_clear_22 rfl (by decide) rfl ?_
  have hL23 : ∀ (k23_42 : (Nat → Int32) → Option (T_Pg)), (∀ (f10 : (Nat → Int32)), k23_42 f10 = some o_v → WW p l e rm_Pg_clear s m args below meth c D A 2 0 0 (MQ below (QV D K A (cl_Pg K q o_v)) args s 0 0 A) ([((q 0), ob 3 [.ref (q 1), .ref (q 2), .ref (q 3), .ref (q 4), .ref (q 5), .ref (q 6), .ref (q 7), .ref (q 8), .int (Pg_nameCount v), .int (Pg_size v), .int (Pg_lines v)]), ((q 1), aI K 64 f3), ((q 2), aI K 64 (Pg_first v)), ((q 3), aI K 64 (Pg_second v)), ((q 4), aI K 64 (Pg_third v)), ((q 5), aI K 8 (Pg_rules v)), ((q 6), aI K 32 f10), ((q 7), aI K 140 (Pg_names v)), ((q 8), aI K 140 (Pg_namedPlaces v))]) ([(0, .ref (q 0))]) ([]) 42) → ∀ (n23 : Nat) (x8 : Int32) (f9 : (Nat → Int32)), f_Pg_clear_L23 k23_42 n23 x8 f9 = some o_v → WW p l e rm_Pg_clear s m args below meth c D A 2 0 0 (MQ below (QV D K A (cl_Pg K q o_v)) args s 0 0 A) ([((q 0), ob 3 [.ref (q 1), .ref (q 2), .ref (q 3), .ref (q 4), .ref (q 5), .ref (q 6), .ref (q 7), .ref (q 8), .int (Pg_nameCount v), .int (Pg_size v), .int (Pg_lines v)]), ((q 1), aI K 64 f3), ((q 2), aI K 64 (Pg_first v)), ((q 3), aI K 64 (Pg_second v)), ((q 4), aI K 64 (Pg_third v)), ((q 5), aI K 8 (Pg_rules v)), ((q 6), aI K 32 f9), ((q 7), aI K 140 (Pg_names v)), ((q 8), aI K 140 (Pg_namedPlaces v))]) ([(0, .ref (q 0)), (1, .int x8)]) ([]) 23 := by
    clear hf
    intro k23_42 hk23_42 n23
    induction n23 with
    | zero => intro x8 f9 hf; exact (nomatch (show (none : Option (T_Pg)) = some _ from hf))
    | succ n23 ih23 =>
      intro x8 f9 hf
      rw [f_Pg_clear_L23] at hf
      refine r_iload_n (pc := 23) cx dX4_clear_23 1 rfl ?_
      refine r_bipush (pc := 24) cx dX4_clear_24 bp_32 ?_
      refine r_icmp_ge (pc := 26) (tgt := 42) cx dX4_clear_26 (by decide) (fun h11 => ?_) (fun h11 => ?_)
      · replace hf := ifp h11 hf
        refine r_loc (loc' := [(0, .ref (q 0))]) [0] rfl ?_
        exact hk23_42 _ hf
      · replace hf := ifn h11 hf
        refine r_aload_n (pc := 29) cx dX4_clear_29 0 rfl ?_
        refine r_get (pc := 30) cx cf_X4 0 5 rfl (by decide) rfl wd_148 dX4_clear_30 ?_
        refine r_iload_n (pc := 33) cx dX4_clear_33 1 rfl ?_
        refine r_iconst (pc := 34) cx dX4_clear_34 ic_0 ?_
        replace hf := chk_of hf
        obtain ⟨h12, hf⟩ := hf
        replace hf := nm_of hf
        obtain ⟨f13, ef13, hf⟩ := hf
        refine r_iast (pc := 35) (ws' := [((q 0), ob 3 [.ref (q 1), .ref (q 2), .ref (q 3), .ref (q 4), .ref (q 5), .ref (q 6), .ref (q 7), .ref (q 8), .int (Pg_nameCount v), .int (Pg_size v), .int (Pg_lines v)]), ((q 1), aI K 64 f3), ((q 2), aI K 64 (Pg_first v)), ((q 3), aI K 64 (Pg_second v)), ((q 4), aI K 64 (Pg_third v)), ((q 5), aI K 8 (Pg_rules v)), ((q 6), aI K 32 f13), ((q 7), aI K 140 (Pg_names v)), ((q 8), aI K 140 (Pg_namedPlaces v))]) cx 6 rfl h12 dX4_clear_35 ef13 rfl ?_
        replace hf := nm_of hf
        obtain ⟨x14, ex14, hf⟩ := hf
        refine r_iinc (pc := 36) (loc' := [(1, .int x14), (0, .ref (q 0))]) (v := x14) cx dX4_clear_36 1 rfl ((congrArg (fun z => x8 + z) ic_1).trans ex14.symm) (by decide) rfl ?_
        refine r_goto (pc := 39) (tgt := 23) cx dX4_clear_39 (by decide) ?_
        refine r_loc (loc' := [(0, .ref (q 0)), (1, .int x14)]) [1, 0] rfl ?_
        exact ih23 _ _ hf
  refine r_loc (loc' := [(0, .ref (q 0)), (1, .int (0 : Int32))]) [1, 0] rfl ?_
  refine hL23 _ (fun f10 hf => ?_) _ _ _ hf
  refine r_aload_n (pc := 42) cx dX4_clear_42 0 rfl ?_
  refine r_get (pc := 43) cx cf_X4 0 4 rfl (by decide) rfl wd_144 dX4_clear_43 ?_
  refine r_iconst (pc := 46) cx dX4_clear_46 ic_0 ?_
  refine r_bipush (pc := 47) cx dX4_clear_47 bp_8 ?_
  replace hf := nm_of hf
  obtain ⟨f15, ef15, hf⟩ := hf
  refine r_iast (pc := 49) (ws' := [((q 0), ob 3 [.ref (q 1), .ref (q 2), .ref (q 3), .ref (q 4), .ref (q 5), .ref (q 6), .ref (q 7), .ref (q 8), .int (Pg_nameCount v), .int (Pg_size v), .int (Pg_lines v)]), ((q 1), aI K 64 f3), ((q 2), aI K 64 (Pg_first v)), ((q 3), aI K 64 (Pg_second v)), ((q 4), aI K 64 (Pg_third v)), ((q 5), aI K 8 f15), ((q 6), aI K 32 f10), ((q 7), aI K 140 (Pg_names v)), ((q 8), aI K 140 (Pg_namedPlaces v))]) cx 5 rfl (by decide) dX4_clear_49 ef15 rfl ?_
  refine r_aload_n (pc := 50) cx dX4_clear_50 0 rfl ?_
  refine r_get (pc := 51) cx cf_X4 0 4 rfl (by decide) rfl wd_144 dX4_clear_51 ?_
  refine r_iconst (pc := 54) cx dX4_clear_54 ic_1 ?_
  refine r_iconst (pc := 55) cx dX4_clear_55 ic_1 ?_
  replace hf := nm_of hf
  obtain ⟨f16, ef16, hf⟩ := hf
  refine r_iast (pc := 56) (ws' := [((q 0), ob 3 [.ref (q 1), .ref (q 2), .ref (q 3), .ref (q 4), .ref (q 5), .ref (q 6), .ref (q 7), .ref (q 8), .int (Pg_nameCount v), .int (Pg_size v), .int (Pg_lines v)]), ((q 1), aI K 64 f3), ((q 2), aI K 64 (Pg_first v)), ((q 3), aI K 64 (Pg_second v)), ((q 4), aI K 64 (Pg_third v)), ((q 5), aI K 8 f16), ((q 6), aI K 32 f10), ((q 7), aI K 140 (Pg_names v)), ((q 8), aI K 140 (Pg_namedPlaces v))]) cx 5 rfl (by decide) dX4_clear_56 ef16 rfl ?_
  refine r_aload_n (pc := 57) cx dX4_clear_57 0 rfl ?_
  refine r_get (pc := 58) cx cf_X4 0 4 rfl (by decide) rfl wd_144 dX4_clear_58 ?_
  refine r_iconst (pc := 61) cx dX4_clear_61 ic_2 ?_
  refine r_iconst (pc := 62) cx dX4_clear_62 ic_4 ?_
  replace hf := nm_of hf
  obtain ⟨f17, ef17, hf⟩ := hf
  refine r_iast (pc := 63) (ws' := [((q 0), ob 3 [.ref (q 1), .ref (q 2), .ref (q 3), .ref (q 4), .ref (q 5), .ref (q 6), .ref (q 7), .ref (q 8), .int (Pg_nameCount v), .int (Pg_size v), .int (Pg_lines v)]), ((q 1), aI K 64 f3), ((q 2), aI K 64 (Pg_first v)), ((q 3), aI K 64 (Pg_second v)), ((q 4), aI K 64 (Pg_third v)), ((q 5), aI K 8 f17), ((q 6), aI K 32 f10), ((q 7), aI K 140 (Pg_names v)), ((q 8), aI K 140 (Pg_namedPlaces v))]) cx 5 rfl (by decide) dX4_clear_63 ef17 rfl ?_
  refine r_aload_n (pc := 64) cx dX4_clear_64 0 rfl ?_
  refine r_get (pc := 65) cx cf_X4 0 4 rfl (by decide) rfl wd_144 dX4_clear_65 ?_
  refine r_iconst (pc := 68) cx dX4_clear_68 ic_3 ?_
  refine r_iconst (pc := 69) cx dX4_clear_69 ic_4 ?_
  replace hf := nm_of hf
  obtain ⟨f18, ef18, hf⟩ := hf
  refine r_iast (pc := 70) (ws' := [((q 0), ob 3 [.ref (q 1), .ref (q 2), .ref (q 3), .ref (q 4), .ref (q 5), .ref (q 6), .ref (q 7), .ref (q 8), .int (Pg_nameCount v), .int (Pg_size v), .int (Pg_lines v)]), ((q 1), aI K 64 f3), ((q 2), aI K 64 (Pg_first v)), ((q 3), aI K 64 (Pg_second v)), ((q 4), aI K 64 (Pg_third v)), ((q 5), aI K 8 f18), ((q 6), aI K 32 f10), ((q 7), aI K 140 (Pg_names v)), ((q 8), aI K 140 (Pg_namedPlaces v))]) cx 5 rfl (by decide) dX4_clear_70 ef18 rfl ?_
  refine r_aload_n (pc := 71) cx dX4_clear_71 0 rfl ?_
  refine r_get (pc := 72) cx cf_X4 0 4 rfl (by decide) rfl wd_144 dX4_clear_72 ?_
  refine r_iconst (pc := 75) cx dX4_clear_75 ic_4 ?_
  refine r_iconst (pc := 76) cx dX4_clear_76 ic_4 ?_
  replace hf := nm_of hf
  obtain ⟨f19, ef19, hf⟩ := hf
  refine r_iast (pc := 77) (ws' := [((q 0), ob 3 [.ref (q 1), .ref (q 2), .ref (q 3), .ref (q 4), .ref (q 5), .ref (q 6), .ref (q 7), .ref (q 8), .int (Pg_nameCount v), .int (Pg_size v), .int (Pg_lines v)]), ((q 1), aI K 64 f3), ((q 2), aI K 64 (Pg_first v)), ((q 3), aI K 64 (Pg_second v)), ((q 4), aI K 64 (Pg_third v)), ((q 5), aI K 8 f19), ((q 6), aI K 32 f10), ((q 7), aI K 140 (Pg_names v)), ((q 8), aI K 140 (Pg_namedPlaces v))]) cx 5 rfl (by decide) dX4_clear_77 ef19 rfl ?_
  refine r_aload_n (pc := 78) cx dX4_clear_78 0 rfl ?_
  refine r_get (pc := 79) cx cf_X4 0 4 rfl (by decide) rfl wd_144 dX4_clear_79 ?_
  refine r_iconst (pc := 82) cx dX4_clear_82 ic_5 ?_
  refine r_iconst (pc := 83) cx dX4_clear_83 ic_4 ?_
  replace hf := nm_of hf
  obtain ⟨f20, ef20, hf⟩ := hf
  refine r_iast (pc := 84) (ws' := [((q 0), ob 3 [.ref (q 1), .ref (q 2), .ref (q 3), .ref (q 4), .ref (q 5), .ref (q 6), .ref (q 7), .ref (q 8), .int (Pg_nameCount v), .int (Pg_size v), .int (Pg_lines v)]), ((q 1), aI K 64 f3), ((q 2), aI K 64 (Pg_first v)), ((q 3), aI K 64 (Pg_second v)), ((q 4), aI K 64 (Pg_third v)), ((q 5), aI K 8 f20), ((q 6), aI K 32 f10), ((q 7), aI K 140 (Pg_names v)), ((q 8), aI K 140 (Pg_namedPlaces v))]) cx 5 rfl (by decide) dX4_clear_84 ef20 rfl ?_
  refine r_aload_n (pc := 85) cx dX4_clear_85 0 rfl ?_
  refine r_get (pc := 86) cx cf_X4 0 4 rfl (by decide) rfl wd_144 dX4_clear_86 ?_
  refine r_bipush (pc := 89) cx dX4_clear_89 bp_6 ?_
  refine r_iconst (pc := 91) cx dX4_clear_91 ic_3 ?_
  replace hf := nm_of hf
  obtain ⟨f21, ef21, hf⟩ := hf
  refine r_iast (pc := 92) (ws' := [((q 0), ob 3 [.ref (q 1), .ref (q 2), .ref (q 3), .ref (q 4), .ref (q 5), .ref (q 6), .ref (q 7), .ref (q 8), .int (Pg_nameCount v), .int (Pg_size v), .int (Pg_lines v)]), ((q 1), aI K 64 f3), ((q 2), aI K 64 (Pg_first v)), ((q 3), aI K 64 (Pg_second v)), ((q 4), aI K 64 (Pg_third v)), ((q 5), aI K 8 f21), ((q 6), aI K 32 f10), ((q 7), aI K 140 (Pg_names v)), ((q 8), aI K 140 (Pg_namedPlaces v))]) cx 5 rfl (by decide) dX4_clear_92 ef21 rfl ?_
  refine r_aload_n (pc := 93) cx dX4_clear_93 0 rfl ?_
  refine r_get (pc := 94) cx cf_X4 0 4 rfl (by decide) rfl wd_144 dX4_clear_94 ?_
  refine r_bipush (pc := 97) cx dX4_clear_97 bp_7 ?_
  refine r_iconst (pc := 99) cx dX4_clear_99 ic_0 ?_
  replace hf := nm_of hf
  obtain ⟨f22, ef22, hf⟩ := hf
  refine r_iast (pc := 100) (ws' := [((q 0), ob 3 [.ref (q 1), .ref (q 2), .ref (q 3), .ref (q 4), .ref (q 5), .ref (q 6), .ref (q 7), .ref (q 8), .int (Pg_nameCount v), .int (Pg_size v), .int (Pg_lines v)]), ((q 1), aI K 64 f3), ((q 2), aI K 64 (Pg_first v)), ((q 3), aI K 64 (Pg_second v)), ((q 4), aI K 64 (Pg_third v)), ((q 5), aI K 8 f22), ((q 6), aI K 32 f10), ((q 7), aI K 140 (Pg_names v)), ((q 8), aI K 140 (Pg_namedPlaces v))]) cx 5 rfl (by decide) dX4_clear_100 ef22 rfl ?_
  refine r_aload_n (pc := 101) cx dX4_clear_101 0 rfl ?_
  refine r_iconst (pc := 102) cx dX4_clear_102 ic_0 ?_
  refine r_putI (pc := 103) (ws' := [((q 0), ob 3 [.ref (q 1), .ref (q 2), .ref (q 3), .ref (q 4), .ref (q 5), .ref (q 6), .ref (q 7), .ref (q 8), .int (0 : Int32), .int (Pg_size v), .int (Pg_lines v)]), ((q 1), aI K 64 f3), ((q 2), aI K 64 (Pg_first v)), ((q 3), aI K 64 (Pg_second v)), ((q 4), aI K 64 (Pg_third v)), ((q 5), aI K 8 f22), ((q 6), aI K 32 f10), ((q 7), aI K 140 (Pg_names v)), ((q 8), aI K 140 (Pg_namedPlaces v))]) cx cf_X4 0 8 rfl (by decide) (Nat.le_of_ble_eq_true rfl) rfl pfd_I wd_154 dX4_clear_103 rfl ?_
  refine r_aload_n (pc := 106) cx dX4_clear_106 0 rfl ?_
  refine r_iconst (pc := 107) cx dX4_clear_107 ic_0 ?_
  refine r_putI (pc := 108) (ws' := [((q 0), ob 3 [.ref (q 1), .ref (q 2), .ref (q 3), .ref (q 4), .ref (q 5), .ref (q 6), .ref (q 7), .ref (q 8), .int (0 : Int32), .int (0 : Int32), .int (Pg_lines v)]), ((q 1), aI K 64 f3), ((q 2), aI K 64 (Pg_first v)), ((q 3), aI K 64 (Pg_second v)), ((q 4), aI K 64 (Pg_third v)), ((q 5), aI K 8 f22), ((q 6), aI K 32 f10), ((q 7), aI K 140 (Pg_names v)), ((q 8), aI K 140 (Pg_namedPlaces v))]) cx cf_X4 0 9 rfl (by decide) (Nat.le_of_ble_eq_true rfl) rfl pfd_I wd_155 dX4_clear_108 rfl ?_
  refine r_aload_n (pc := 111) cx dX4_clear_111 0 rfl ?_
  refine r_iconst (pc := 112) cx dX4_clear_112 ic_0 ?_
  refine r_putI (pc := 113) (ws' := [((q 0), ob 3 [.ref (q 1), .ref (q 2), .ref (q 3), .ref (q 4), .ref (q 5), .ref (q 6), .ref (q 7), .ref (q 8), .int (0 : Int32), .int (0 : Int32), .int (0 : Int32)]), ((q 1), aI K 64 f3), ((q 2), aI K 64 (Pg_first v)), ((q 3), aI K 64 (Pg_second v)), ((q 4), aI K 64 (Pg_third v)), ((q 5), aI K 8 f22), ((q 6), aI K 32 f10), ((q 7), aI K 140 (Pg_names v)), ((q 8), aI K 140 (Pg_namedPlaces v))]) cx cf_X4 0 10 rfl (by decide) (Nat.le_of_ble_eq_true rfl) rfl pfd_I wd_158 dX4_clear_113 rfl ?_
  have hi := inj1 hf
  exact r_vret (pc := 116) cx (by rw [← hi]; (try simp only [cl_Pg, Pg_code_mk, Pg_first_mk, Pg_second_mk, Pg_third_mk, Pg_rules_mk, Pg_data_mk, Pg_names_mk, Pg_namedPlaces_mk, Pg_nameCount_mk, Pg_size_mk, Pg_lines_mk, List.cons_append, List.nil_append, List.append_nil]) <;> rfl) dX4_clear_116
theorem yv_X4_clear : YV yX4_clear cX4_clear 2 (none) 0 := ⟨⟨by decide +kernel, by decide +kernel, by decide +kernel⟩, wd_131, wd_89, wd_129, wd_130⟩
abbrev rm_Pg_placeOf : Room := { frames := 0, cells := 0, slots := 0, locals := 0 }
set_option maxRecDepth 100000 in
set_option maxHeartbeats 4000000 in
theorem m_Pg_placeOf (l : Launch) (D : va_G) (K : Nat → ClassId) (q : Nat → Nat) (v : T_Pg) (a1 : Int32) {r_ : Int32} (hf : f_Pg_placeOf v a1 = some r_) : MI l yX4_placeOf cX4_placeOf 3 (some .int) rm_Pg_placeOf D K [.ref (q 0), .int a1] (cl_Pg K q v) r_ (cl_Pg K q v) := by
  refine MI_of (loc0 := [(0, .ref (q 0)), (1, .int a1)]) (by decide +kernel) rfl (Nat.le_of_ble_eq_true rfl) ?_
  intro p e s m args below meth c A cx
  unfold f_Pg_placeOf at hf
  refine r_ws (ws' := [((q 0), ob 3 [.ref (q 1), .ref (q 2), .ref (q 3), .ref (q 4), .ref (q 5), .ref (q 6), .ref (q 7), .ref (q 8), .int (Pg_nameCount v), .int (Pg_size v), .int (Pg_lines v)]), ((q 1), aI K 64 (Pg_code v)), ((q 2), aI K 64 (Pg_first v)), ((q 3), aI K 64 (Pg_second v)), ((q 4), aI K 64 (Pg_third v)), ((q 5), aI K 8 (Pg_rules v)), ((q 6), aI K 32 (Pg_data v)), ((q 7), aI K 140 (Pg_names v)), ((q 8), aI K 140 (Pg_namedPlaces v))]) rfl ?_
  refine r_iconst (pc := 0) cx dX4_placeOf_0 ic_0 ?_
  refine r_istore_n (pc := 1) (loc' := [(2, .int (0 : Int32)), (0, .ref (q 0)), (1, .int a1)]) cx dX4_placeOf_1 rfl (by decide) rfl ?_
  have hL2 : ∀ (k2_27 : Int32 → Option (Int32)) (k2_40 : Option (Int32)), (∀ (x2 : Int32), k2_27 x2 = some r_ → WW p l e rm_Pg_placeOf s m args below meth c D A 3 0 0 (MQ below (QI D K A r_ (cl_Pg K q v)) args s 0 0 A) ([((q 0), ob 3 [.ref (q 1), .ref (q 2), .ref (q 3), .ref (q 4), .ref (q 5), .ref (q 6), .ref (q 7), .ref (q 8), .int (Pg_nameCount v), .int (Pg_size v), .int (Pg_lines v)]), ((q 1), aI K 64 (Pg_code v)), ((q 2), aI K 64 (Pg_first v)), ((q 3), aI K 64 (Pg_second v)), ((q 4), aI K 64 (Pg_third v)), ((q 5), aI K 8 (Pg_rules v)), ((q 6), aI K 32 (Pg_data v)), ((q 7), aI K 140 (Pg_names v)), ((q 8), aI K 140 (Pg_namedPlaces v))]) ([(0, .ref (q 0)), (2, .int x2)]) ([]) 27) → (k2_40 = some r_ → WW p l e rm_Pg_placeOf s m args below meth c D A 3 0 0 (MQ below (QI D K A r_ (cl_Pg K q v)) args s 0 0 A) ([((q 0), ob 3 [.ref (q 1), .ref (q 2), .ref (q 3), .ref (q 4), .ref (q 5), .ref (q 6), .ref (q 7), .ref (q 8), .int (Pg_nameCount v), .int (Pg_size v), .int (Pg_lines v)]), ((q 1), aI K 64 (Pg_code v)), ((q 2), aI K 64 (Pg_first v)), ((q 3), aI K 64 (Pg_second v)), ((q 4), aI K 64 (Pg_third v)), ((q 5), aI K 8 (Pg_rules v)), ((q 6), aI K 32 (Pg_data v)), ((q 7), aI K 140 (Pg_names v)), ((q 8), aI K 140 (Pg_namedPlaces v))]) ([]) ([]) 40) → ∀ (n2 : Nat) (x1 : Int32), f_Pg_placeOf_L2 v a1 k2_27 k2_40 n2 x1 = some r_ → WW p l e rm_Pg_placeOf s m args below meth c D A 3 0 0 (MQ below (QI D K A r_ (cl_Pg K q v)) args s 0 0 A) ([((q 0), ob 3 [.ref (q 1), .ref (q 2), .ref (q 3), .ref (q 4), .ref (q 5), .ref (q 6), .ref (q 7), .ref (q 8), .int (Pg_nameCount v), .int (Pg_size v), .int (Pg_lines v)]), ((q 1), aI K 64 (Pg_code v)), ((q 2), aI K 64 (Pg_first v)), ((q 3), aI K 64 (Pg_second v)), ((q 4), aI K 64 (Pg_third v)), ((q 5), aI K 8 (Pg_rules v)), ((q 6), aI K 32 (Pg_data v)), ((q 7), aI K 140 (Pg_names v)), ((q 8), aI K 140 (Pg_namedPlaces v))]) ([(0, .ref (q 0)), (1, .int a1), (2, .int x1)]) ([]) 2 := by
    clear hf
    intro k2_27 k2_40 hk2_27 hk2_40 n2
    induction n2 with
    | zero => intro x1 hf; exact (nomatch (show (none : Option (Int32)) = some _ from hf))
    | succ n2 ih2 =>
      intro x1 hf
      rw [f_Pg_placeOf_L2] at hf
      refine r_iload_n (pc := 2) cx dX4_placeOf_2 2 rfl ?_
      refine r_aload_n (pc := 3) cx dX4_placeOf_3 0 rfl ?_
      refine r_get (pc := 4) cx cf_X4 0 8 rfl (by decide) rfl wd_154 dX4_placeOf_4 ?_
      refine r_icmp_ge (pc := 7) (tgt := 40) cx dX4_placeOf_7 (by decide) (fun h3 => ?_) (fun h3 => ?_)
      · replace hf := ifp h3 hf
        refine r_loc (loc' := []) [] rfl ?_
        exact hk2_40 hf
      · replace hf := ifn h3 hf
        refine r_iload_n (pc := 10) cx dX4_placeOf_10 2 rfl ?_
        refine r_sipush (pc := 11) cx dX4_placeOf_11 sp_140 ?_
        refine r_icmp_ge (pc := 14) (tgt := 40) cx dX4_placeOf_14 (by decide) (fun h4 => ?_) (fun h4 => ?_)
        · replace hf := ifp h4 hf
          refine r_loc (loc' := []) [] rfl ?_
          exact hk2_40 hf
        · replace hf := ifn h4 hf
          refine r_aload_n (pc := 17) cx dX4_placeOf_17 0 rfl ?_
          refine r_get (pc := 18) cx cf_X4 0 6 rfl (by decide) rfl wd_152 dX4_placeOf_18 ?_
          refine r_iload_n (pc := 21) cx dX4_placeOf_21 2 rfl ?_
          replace hf := chk_of hf
          obtain ⟨h5, hf⟩ := hf
          refine r_iald (pc := 22) cx 7 rfl h5 dX4_placeOf_22 ?_
          refine r_iload_n (pc := 23) cx dX4_placeOf_23 1 rfl ?_
          refine r_icmp_ne (pc := 24) (tgt := 34) cx dX4_placeOf_24 (by decide) (fun h6 => ?_) (fun h6 => ?_)
          · replace hf := ifn h6 hf
            replace hf := nm_of hf
            obtain ⟨x7, ex7, hf⟩ := hf
            refine r_iinc (pc := 34) (loc' := [(2, .int x7), (0, .ref (q 0)), (1, .int a1)]) (v := x7) cx dX4_placeOf_34 2 rfl ((congrArg (fun z => x1 + z) ic_1).trans ex7.symm) (by decide) rfl ?_
            refine r_goto (pc := 37) (tgt := 2) cx dX4_placeOf_37 (by decide) ?_
            refine r_loc (loc' := [(0, .ref (q 0)), (1, .int a1), (2, .int x7)]) [1, 2, 0] rfl ?_
            exact ih2 _ hf
          · replace hf := ifp h6 hf
            refine r_loc (loc' := [(0, .ref (q 0)), (2, .int x1)]) [0, 2] rfl ?_
            exact hk2_27 _ hf
  refine r_loc (loc' := [(0, .ref (q 0)), (1, .int a1), (2, .int (0 : Int32))]) [1, 2, 0] rfl ?_
  refine hL2 _ _ (fun x2 hf => ?_) (fun hf => ?_) _ _ hf
  · refine r_aload_n (pc := 27) cx dX4_placeOf_27 0 rfl ?_
    refine r_get (pc := 28) cx cf_X4 0 7 rfl (by decide) rfl wd_153 dX4_placeOf_28 ?_
    refine r_iload_n (pc := 31) cx dX4_placeOf_31 1 rfl ?_
    replace hf := chk_of hf
    obtain ⟨h8, hf⟩ := hf
    refine r_iald (pc := 32) cx 8 rfl h8 dX4_placeOf_32 ?_
    have hi := inj1 hf
    exact r_iret (pc := 33) cx hi rfl dX4_placeOf_33
  · refine r_iconst (pc := 40) cx dX4_placeOf_40 ic_m1 ?_
    have hi := inj1 hf
    exact r_iret (pc := 41) cx hi rfl dX4_placeOf_41
theorem yv_X4_placeOf : YV yX4_placeOf cX4_placeOf 3 (some .int) 1 := ⟨⟨by decide +kernel, by decide +kernel, by decide +kernel⟩, wd_668, wd_89, wd_666, wd_667⟩
abbrev rm_Pg_nameNext : Room := { frames := 0, cells := 0, slots := 0, locals := 0 }
set_option maxRecDepth 100000 in
set_option maxHeartbeats 4000000 in
theorem m_Pg_nameNext (l : Launch) (D : va_G) (K : Nat → ClassId) (q : Nat → Nat) (v : T_Pg) (a1 : Int32) {o_v : T_Pg} (hf : f_Pg_nameNext v a1 = some o_v) : MV l yX4_nameNext cX4_nameNext 2 (none) rm_Pg_nameNext D K [.ref (q 0), .int a1] (cl_Pg K q v) (cl_Pg K q o_v) := by
  refine MV_of (loc0 := [(0, .ref (q 0)), (1, .int a1)]) (by decide +kernel) rfl (Nat.le_of_ble_eq_true rfl) ?_
  intro p e s m args below meth c A cx
  unfold f_Pg_nameNext at hf
  refine r_ws (ws' := [((q 0), ob 3 [.ref (q 1), .ref (q 2), .ref (q 3), .ref (q 4), .ref (q 5), .ref (q 6), .ref (q 7), .ref (q 8), .int (Pg_nameCount v), .int (Pg_size v), .int (Pg_lines v)]), ((q 1), aI K 64 (Pg_code v)), ((q 2), aI K 64 (Pg_first v)), ((q 3), aI K 64 (Pg_second v)), ((q 4), aI K 64 (Pg_third v)), ((q 5), aI K 8 (Pg_rules v)), ((q 6), aI K 32 (Pg_data v)), ((q 7), aI K 140 (Pg_names v)), ((q 8), aI K 140 (Pg_namedPlaces v))]) rfl ?_
  refine r_aload_n (pc := 0) cx dX4_nameNext_0 0 rfl ?_
  refine r_get (pc := 1) cx cf_X4 0 8 rfl (by decide) rfl wd_154 dX4_nameNext_1 ?_
  refine r_if_lt (pc := 4) (tgt := 50) cx dX4_nameNext_4 (by decide) (fun h1 => ?_) (fun h1 => ?_)
  · replace hf := ifp h1 hf
    have hi := inj1 hf
    exact r_vret (pc := 50) cx (by rw [← hi]; rfl) dX4_nameNext_50
  · replace hf := ifn h1 hf
    refine r_aload_n (pc := 7) cx dX4_nameNext_7 0 rfl ?_
    refine r_get (pc := 8) cx cf_X4 0 8 rfl (by decide) rfl wd_154 dX4_nameNext_8 ?_
    refine r_sipush (pc := 11) cx dX4_nameNext_11 sp_140 ?_
    refine r_icmp_ge (pc := 14) (tgt := 50) cx dX4_nameNext_14 (by decide) (fun h2 => ?_) (fun h2 => ?_)
    · replace hf := ifp h2 hf
      have hi := inj1 hf
      exact r_vret (pc := 50) cx (by rw [← hi]; rfl) dX4_nameNext_50
    · replace hf := ifn h2 hf
      refine r_aload_n (pc := 17) cx dX4_nameNext_17 0 rfl ?_
      refine r_get (pc := 18) cx cf_X4 0 6 rfl (by decide) rfl wd_152 dX4_nameNext_18 ?_
      refine r_aload_n (pc := 21) cx dX4_nameNext_21 0 rfl ?_
      refine r_get (pc := 22) cx cf_X4 0 8 rfl (by decide) rfl wd_154 dX4_nameNext_22 ?_
      refine r_iload_n (pc := 25) cx dX4_nameNext_25 1 rfl ?_
      replace hf := chk_of hf
      obtain ⟨h3, hf⟩ := hf
      replace hf := nm_of hf
      obtain ⟨f4, ef4, hf⟩ := hf
      refine r_iast (pc := 26) (ws' := [((q 0), ob 3 [.ref (q 1), .ref (q 2), .ref (q 3), .ref (q 4), .ref (q 5), .ref (q 6), .ref (q 7), .ref (q 8), .int (Pg_nameCount v), .int (Pg_size v), .int (Pg_lines v)]), ((q 1), aI K 64 (Pg_code v)), ((q 2), aI K 64 (Pg_first v)), ((q 3), aI K 64 (Pg_second v)), ((q 4), aI K 64 (Pg_third v)), ((q 5), aI K 8 (Pg_rules v)), ((q 6), aI K 32 (Pg_data v)), ((q 7), aI K 140 f4), ((q 8), aI K 140 (Pg_namedPlaces v))]) cx 7 rfl h3 dX4_nameNext_26 ef4 rfl ?_
      refine r_aload_n (pc := 27) cx dX4_nameNext_27 0 rfl ?_
      refine r_get (pc := 28) cx cf_X4 0 7 rfl (by decide) rfl wd_153 dX4_nameNext_28 ?_
      refine r_aload_n (pc := 31) cx dX4_nameNext_31 0 rfl ?_
      refine r_get (pc := 32) cx cf_X4 0 8 rfl (by decide) rfl wd_154 dX4_nameNext_32 ?_
      refine r_aload_n (pc := 35) cx dX4_nameNext_35 0 rfl ?_
      refine r_get (pc := 36) cx cf_X4 0 9 rfl (by decide) rfl wd_155 dX4_nameNext_36 ?_
      replace hf := nm_of hf
      obtain ⟨x5, ex5, hf⟩ := hf
      refine r_nm ex5 ?_
      replace hf := chk_of hf
      obtain ⟨h6, hf⟩ := hf
      replace hf := nm_of hf
      obtain ⟨f7, ef7, hf⟩ := hf
      refine r_iast (pc := 39) (ws' := [((q 0), ob 3 [.ref (q 1), .ref (q 2), .ref (q 3), .ref (q 4), .ref (q 5), .ref (q 6), .ref (q 7), .ref (q 8), .int (Pg_nameCount v), .int (Pg_size v), .int (Pg_lines v)]), ((q 1), aI K 64 (Pg_code v)), ((q 2), aI K 64 (Pg_first v)), ((q 3), aI K 64 (Pg_second v)), ((q 4), aI K 64 (Pg_third v)), ((q 5), aI K 8 (Pg_rules v)), ((q 6), aI K 32 (Pg_data v)), ((q 7), aI K 140 f4), ((q 8), aI K 140 f7)]) cx 8 rfl h6 dX4_nameNext_39 ef7 rfl ?_
      refine r_aload_n (pc := 40) cx dX4_nameNext_40 0 rfl ?_
      refine r_dup (pc := 41) cx dX4_nameNext_41 rfl ?_
      refine r_get (pc := 42) cx cf_X4 0 8 rfl (by decide) rfl wd_154 dX4_nameNext_42 ?_
      refine r_iconst (pc := 45) cx dX4_nameNext_45 ic_1 ?_
      refine r_iadd (pc := 46) cx dX4_nameNext_46 ?_
      replace hf := nm_of hf
      obtain ⟨x8, ex8, hf⟩ := hf
      refine r_nm ex8 ?_
      refine r_putI (pc := 47) (ws' := [((q 0), ob 3 [.ref (q 1), .ref (q 2), .ref (q 3), .ref (q 4), .ref (q 5), .ref (q 6), .ref (q 7), .ref (q 8), .int x8, .int (Pg_size v), .int (Pg_lines v)]), ((q 1), aI K 64 (Pg_code v)), ((q 2), aI K 64 (Pg_first v)), ((q 3), aI K 64 (Pg_second v)), ((q 4), aI K 64 (Pg_third v)), ((q 5), aI K 8 (Pg_rules v)), ((q 6), aI K 32 (Pg_data v)), ((q 7), aI K 140 f4), ((q 8), aI K 140 f7)]) cx cf_X4 0 8 rfl (by decide) (Nat.le_of_ble_eq_true rfl) rfl pfd_I wd_154 dX4_nameNext_47 rfl ?_
      have hi := inj1 hf
      exact r_vret (pc := 50) cx (by rw [← hi]; (try simp only [cl_Pg, Pg_code_mk, Pg_first_mk, Pg_second_mk, Pg_third_mk, Pg_rules_mk, Pg_data_mk, Pg_names_mk, Pg_namedPlaces_mk, Pg_nameCount_mk, Pg_size_mk, Pg_lines_mk, List.cons_append, List.nil_append, List.append_nil]) <;> rfl) dX4_nameNext_50
theorem yv_X4_nameNext : YV yX4_nameNext cX4_nameNext 2 (none) 1 := ⟨⟨by decide +kernel, by decide +kernel, by decide +kernel⟩, wd_688, wd_89, wd_686, wd_687⟩
abbrev rm_Pg_append : Room := { frames := 0, cells := 0, slots := 0, locals := 0 }
set_option maxRecDepth 100000 in
set_option maxHeartbeats 4000000 in
theorem m_Pg_append (l : Launch) (D : va_G) (K : Nat → ClassId) (q : Nat → Nat) (v : T_Pg) (a1 : Int32) (a2 : Int32) (a3 : Int32) (a4 : Int32) {o_v : T_Pg} (hf : f_Pg_append v a1 a2 a3 a4 = some o_v) : MV l yX4_append cX4_append 6 (none) rm_Pg_append D K [.ref (q 0), .int a1, .int a2, .int a3, .int a4] (cl_Pg K q v) (cl_Pg K q o_v) := by
  refine MV_of (loc0 := [(0, .ref (q 0)), (1, .int a1), (2, .int a2), (3, .int a3), (4, .int a4)]) (by decide +kernel) rfl (Nat.le_of_ble_eq_true rfl) ?_
  intro p e s m args below meth c A cx
  unfold f_Pg_append at hf
  refine r_ws (ws' := [((q 0), ob 3 [.ref (q 1), .ref (q 2), .ref (q 3), .ref (q 4), .ref (q 5), .ref (q 6), .ref (q 7), .ref (q 8), .int (Pg_nameCount v), .int (Pg_size v), .int (Pg_lines v)]), ((q 1), aI K 64 (Pg_code v)), ((q 2), aI K 64 (Pg_first v)), ((q 3), aI K 64 (Pg_second v)), ((q 4), aI K 64 (Pg_third v)), ((q 5), aI K 8 (Pg_rules v)), ((q 6), aI K 32 (Pg_data v)), ((q 7), aI K 140 (Pg_names v)), ((q 8), aI K 140 (Pg_namedPlaces v))]) rfl ?_
  refine r_aload_n (pc := 0) cx dX4_append_0 0 rfl ?_
  refine r_get (pc := 1) cx cf_X4 0 9 rfl (by decide) rfl wd_155 dX4_append_1 ?_
  refine r_bipush (pc := 4) cx dX4_append_4 bp_63 ?_
  refine r_iand (pc := 6) cx dX4_append_6 ?_
  replace hf := nm_of hf
  obtain ⟨x1, ex1, hf⟩ := hf
  refine r_nm ex1 ?_
  refine r_istore (pc := 7) (loc' := [(5, .int x1), (0, .ref (q 0)), (1, .int a1), (2, .int a2), (3, .int a3), (4, .int a4)]) cx dX4_append_7 (by decide) rfl ?_
  refine r_aload_n (pc := 9) cx dX4_append_9 1 rfl ?_
  refine r_get (pc := 10) cx cf_X4 0 0 rfl (by decide) rfl wd_132 dX4_append_10 ?_
  refine r_iload (pc := 13) cx dX4_append_13 0 rfl ?_
  refine r_iload_n (pc := 15) cx dX4_append_15 2 rfl ?_
  replace hf := nm_of hf
  obtain ⟨f2, ef2, hf⟩ := hf
  refine r_iast (pc := 16) (ws' := [((q 0), ob 3 [.ref (q 1), .ref (q 2), .ref (q 3), .ref (q 4), .ref (q 5), .ref (q 6), .ref (q 7), .ref (q 8), .int (Pg_nameCount v), .int (Pg_size v), .int (Pg_lines v)]), ((q 1), aI K 64 f2), ((q 2), aI K 64 (Pg_first v)), ((q 3), aI K 64 (Pg_second v)), ((q 4), aI K 64 (Pg_third v)), ((q 5), aI K 8 (Pg_rules v)), ((q 6), aI K 32 (Pg_data v)), ((q 7), aI K 140 (Pg_names v)), ((q 8), aI K 140 (Pg_namedPlaces v))]) cx 1 rfl (by rw [ex1]; exact ix_and63 _) dX4_append_16 ef2 rfl ?_
  refine r_aload_n (pc := 17) cx dX4_append_17 1 rfl ?_
  refine r_get (pc := 18) cx cf_X4 0 1 rfl (by decide) rfl wd_137 dX4_append_18 ?_
  refine r_iload (pc := 21) cx dX4_append_21 0 rfl ?_
  refine r_iload_n (pc := 23) cx dX4_append_23 3 rfl ?_
  replace hf := nm_of hf
  obtain ⟨f3, ef3, hf⟩ := hf
  refine r_iast (pc := 24) (ws' := [((q 0), ob 3 [.ref (q 1), .ref (q 2), .ref (q 3), .ref (q 4), .ref (q 5), .ref (q 6), .ref (q 7), .ref (q 8), .int (Pg_nameCount v), .int (Pg_size v), .int (Pg_lines v)]), ((q 1), aI K 64 f2), ((q 2), aI K 64 f3), ((q 3), aI K 64 (Pg_second v)), ((q 4), aI K 64 (Pg_third v)), ((q 5), aI K 8 (Pg_rules v)), ((q 6), aI K 32 (Pg_data v)), ((q 7), aI K 140 (Pg_names v)), ((q 8), aI K 140 (Pg_namedPlaces v))]) cx 2 rfl (by rw [ex1]; exact ix_and63 _) dX4_append_24 ef3 rfl ?_
  refine r_aload_n (pc := 25) cx dX4_append_25 1 rfl ?_
  refine r_get (pc := 26) cx cf_X4 0 2 rfl (by decide) rfl wd_139 dX4_append_26 ?_
  refine r_iload (pc := 29) cx dX4_append_29 0 rfl ?_
  refine r_iload_n (pc := 31) cx dX4_append_31 4 rfl ?_
  replace hf := nm_of hf
  obtain ⟨f4, ef4, hf⟩ := hf
  refine r_iast (pc := 32) (ws' := [((q 0), ob 3 [.ref (q 1), .ref (q 2), .ref (q 3), .ref (q 4), .ref (q 5), .ref (q 6), .ref (q 7), .ref (q 8), .int (Pg_nameCount v), .int (Pg_size v), .int (Pg_lines v)]), ((q 1), aI K 64 f2), ((q 2), aI K 64 f3), ((q 3), aI K 64 f4), ((q 4), aI K 64 (Pg_third v)), ((q 5), aI K 8 (Pg_rules v)), ((q 6), aI K 32 (Pg_data v)), ((q 7), aI K 140 (Pg_names v)), ((q 8), aI K 140 (Pg_namedPlaces v))]) cx 3 rfl (by rw [ex1]; exact ix_and63 _) dX4_append_32 ef4 rfl ?_
  refine r_aload_n (pc := 33) cx dX4_append_33 1 rfl ?_
  refine r_get (pc := 34) cx cf_X4 0 3 rfl (by decide) rfl wd_141 dX4_append_34 ?_
  refine r_iload (pc := 37) cx dX4_append_37 0 rfl ?_
  refine r_iload (pc := 39) cx dX4_append_39 5 rfl ?_
  replace hf := nm_of hf
  obtain ⟨f5, ef5, hf⟩ := hf
  refine r_iast (pc := 41) (ws' := [((q 0), ob 3 [.ref (q 1), .ref (q 2), .ref (q 3), .ref (q 4), .ref (q 5), .ref (q 6), .ref (q 7), .ref (q 8), .int (Pg_nameCount v), .int (Pg_size v), .int (Pg_lines v)]), ((q 1), aI K 64 f2), ((q 2), aI K 64 f3), ((q 3), aI K 64 f4), ((q 4), aI K 64 f5), ((q 5), aI K 8 (Pg_rules v)), ((q 6), aI K 32 (Pg_data v)), ((q 7), aI K 140 (Pg_names v)), ((q 8), aI K 140 (Pg_namedPlaces v))]) cx 4 rfl (by rw [ex1]; exact ix_and63 _) dX4_append_41 ef5 rfl ?_
  refine r_aload_n (pc := 42) cx dX4_append_42 1 rfl ?_
  refine r_dup (pc := 43) cx dX4_append_43 rfl ?_
  refine r_get (pc := 44) cx cf_X4 0 9 rfl (by decide) rfl wd_155 dX4_append_44 ?_
  refine r_iconst (pc := 47) cx dX4_append_47 ic_1 ?_
  refine r_iadd (pc := 48) cx dX4_append_48 ?_
  replace hf := nm_of hf
  obtain ⟨x6, ex6, hf⟩ := hf
  refine r_nm ex6 ?_
  refine r_putI (pc := 49) (ws' := [((q 0), ob 3 [.ref (q 1), .ref (q 2), .ref (q 3), .ref (q 4), .ref (q 5), .ref (q 6), .ref (q 7), .ref (q 8), .int (Pg_nameCount v), .int x6, .int (Pg_lines v)]), ((q 1), aI K 64 f2), ((q 2), aI K 64 f3), ((q 3), aI K 64 f4), ((q 4), aI K 64 f5), ((q 5), aI K 8 (Pg_rules v)), ((q 6), aI K 32 (Pg_data v)), ((q 7), aI K 140 (Pg_names v)), ((q 8), aI K 140 (Pg_namedPlaces v))]) cx cf_X4 0 9 rfl (by decide) (Nat.le_of_ble_eq_true rfl) rfl pfd_I wd_155 dX4_append_49 rfl ?_
  have hi := inj1 hf
  exact r_vret (pc := 52) cx (by rw [← hi]; (try simp only [cl_Pg, Pg_code_mk, Pg_first_mk, Pg_second_mk, Pg_third_mk, Pg_rules_mk, Pg_data_mk, Pg_names_mk, Pg_namedPlaces_mk, Pg_nameCount_mk, Pg_size_mk, Pg_lines_mk, List.cons_append, List.nil_append, List.append_nil]) <;> rfl) dX4_append_52
theorem yv_X4_append : YV yX4_append cX4_append 6 (none) 4 := ⟨⟨by decide +kernel, by decide +kernel, by decide +kernel⟩, wd_684, wd_89, wd_682, wd_683⟩
abbrev rm_Qu_clear : Room := { frames := 0, cells := 0, slots := 0, locals := 0 }
set_option maxRecDepth 100000 in
set_option maxHeartbeats 4000000 in
theorem m_Qu_clear (l : Launch) (D : va_G) (K : Nat → ClassId) (q : Nat → Nat) (v : T_Qu) {o_v : T_Qu} (hf : f_Qu_clear v = some o_v) : MV l yX5_clear cX5_clear 1 (none) rm_Qu_clear D K [.ref (q 0)] (cl_Qu K q v) (cl_Qu K q o_v) := by
  refine MV_of (loc0 := [(0, .ref (q 0))]) (by decide +kernel) rfl (Nat.le_of_ble_eq_true rfl) ?_
  intro p e s m args below meth c A cx
  unfold f_Qu_clear at hf
  refine r_ws (ws' := [((q 0), ob 4 [.ref (q 1), .ref (q 2), .ref (q 3), .ref (q 4), .ref (q 5), .ref (q 6), .ref (q 7), .int (Qu_firstLoad v), .int (Qu_loads v), .int (Qu_firstBranch v), .int (Qu_branches v), .int (Qu_held v), .int (Qu_comparedHeld v)]), ((q 1), aI K 8 (Qu_loadAddress v)), ((q 2), aI K 8 (Qu_loadWord v)), ((q 3), aI K 8 (Qu_branch v)), ((q 4), aI K 8 (Qu_heldAddress v)), ((q 5), aI K 8 (Qu_heldWord v)), ((q 6), aI K 8 (Qu_besideAddress v)), ((q 7), aI K 8 (Qu_besideWord v))]) rfl ?_
  refine r_aload_n (pc := 0) cx dX5_clear_0 0 rfl ?_
  refine r_iconst (pc := 1) cx dX5_clear_1 ic_0 ?_
  refine r_putI (pc := 2) (ws' := [((q 0), ob 4 [.ref (q 1), .ref (q 2), .ref (q 3), .ref (q 4), .ref (q 5), .ref (q 6), .ref (q 7), .int (0 : Int32), .int (Qu_loads v), .int (Qu_firstBranch v), .int (Qu_branches v), .int (Qu_held v), .int (Qu_comparedHeld v)]), ((q 1), aI K 8 (Qu_loadAddress v)), ((q 2), aI K 8 (Qu_loadWord v)), ((q 3), aI K 8 (Qu_branch v)), ((q 4), aI K 8 (Qu_heldAddress v)), ((q 5), aI K 8 (Qu_heldWord v)), ((q 6), aI K 8 (Qu_besideAddress v)), ((q 7), aI K 8 (Qu_besideWord v))]) cx cf_X5 0 7 rfl (by decide) (Nat.le_of_ble_eq_true rfl) rfl pfd_I wd_352 dX5_clear_2 rfl ?_
  refine r_aload_n (pc := 5) cx dX5_clear_5 0 rfl ?_
  refine r_iconst (pc := 6) cx dX5_clear_6 ic_0 ?_
  refine r_putI (pc := 7) (ws' := [((q 0), ob 4 [.ref (q 1), .ref (q 2), .ref (q 3), .ref (q 4), .ref (q 5), .ref (q 6), .ref (q 7), .int (0 : Int32), .int (0 : Int32), .int (Qu_firstBranch v), .int (Qu_branches v), .int (Qu_held v), .int (Qu_comparedHeld v)]), ((q 1), aI K 8 (Qu_loadAddress v)), ((q 2), aI K 8 (Qu_loadWord v)), ((q 3), aI K 8 (Qu_branch v)), ((q 4), aI K 8 (Qu_heldAddress v)), ((q 5), aI K 8 (Qu_heldWord v)), ((q 6), aI K 8 (Qu_besideAddress v)), ((q 7), aI K 8 (Qu_besideWord v))]) cx cf_X5 0 8 rfl (by decide) (Nat.le_of_ble_eq_true rfl) rfl pfd_I wd_353 dX5_clear_7 rfl ?_
  refine r_aload_n (pc := 10) cx dX5_clear_10 0 rfl ?_
  refine r_iconst (pc := 11) cx dX5_clear_11 ic_0 ?_
  refine r_putI (pc := 12) (ws' := [((q 0), ob 4 [.ref (q 1), .ref (q 2), .ref (q 3), .ref (q 4), .ref (q 5), .ref (q 6), .ref (q 7), .int (0 : Int32), .int (0 : Int32), .int (0 : Int32), .int (Qu_branches v), .int (Qu_held v), .int (Qu_comparedHeld v)]), ((q 1), aI K 8 (Qu_loadAddress v)), ((q 2), aI K 8 (Qu_loadWord v)), ((q 3), aI K 8 (Qu_branch v)), ((q 4), aI K 8 (Qu_heldAddress v)), ((q 5), aI K 8 (Qu_heldWord v)), ((q 6), aI K 8 (Qu_besideAddress v)), ((q 7), aI K 8 (Qu_besideWord v))]) cx cf_X5 0 9 rfl (by decide) (Nat.le_of_ble_eq_true rfl) rfl pfd_I wd_356 dX5_clear_12 rfl ?_
  refine r_aload_n (pc := 15) cx dX5_clear_15 0 rfl ?_
  refine r_iconst (pc := 16) cx dX5_clear_16 ic_0 ?_
  refine r_putI (pc := 17) (ws' := [((q 0), ob 4 [.ref (q 1), .ref (q 2), .ref (q 3), .ref (q 4), .ref (q 5), .ref (q 6), .ref (q 7), .int (0 : Int32), .int (0 : Int32), .int (0 : Int32), .int (0 : Int32), .int (Qu_held v), .int (Qu_comparedHeld v)]), ((q 1), aI K 8 (Qu_loadAddress v)), ((q 2), aI K 8 (Qu_loadWord v)), ((q 3), aI K 8 (Qu_branch v)), ((q 4), aI K 8 (Qu_heldAddress v)), ((q 5), aI K 8 (Qu_heldWord v)), ((q 6), aI K 8 (Qu_besideAddress v)), ((q 7), aI K 8 (Qu_besideWord v))]) cx cf_X5 0 10 rfl (by decide) (Nat.le_of_ble_eq_true rfl) rfl pfd_I wd_357 dX5_clear_17 rfl ?_
  refine r_aload_n (pc := 20) cx dX5_clear_20 0 rfl ?_
  refine r_iconst (pc := 21) cx dX5_clear_21 ic_0 ?_
  refine r_putI (pc := 22) (ws' := [((q 0), ob 4 [.ref (q 1), .ref (q 2), .ref (q 3), .ref (q 4), .ref (q 5), .ref (q 6), .ref (q 7), .int (0 : Int32), .int (0 : Int32), .int (0 : Int32), .int (0 : Int32), .int (0 : Int32), .int (Qu_comparedHeld v)]), ((q 1), aI K 8 (Qu_loadAddress v)), ((q 2), aI K 8 (Qu_loadWord v)), ((q 3), aI K 8 (Qu_branch v)), ((q 4), aI K 8 (Qu_heldAddress v)), ((q 5), aI K 8 (Qu_heldWord v)), ((q 6), aI K 8 (Qu_besideAddress v)), ((q 7), aI K 8 (Qu_besideWord v))]) cx cf_X5 0 11 rfl (by decide) (Nat.le_of_ble_eq_true rfl) rfl pfd_I wd_360 dX5_clear_22 rfl ?_
  refine r_aload_n (pc := 25) cx dX5_clear_25 0 rfl ?_
  refine r_iconst (pc := 26) cx dX5_clear_26 ic_0 ?_
  refine r_putI (pc := 27) (ws' := [((q 0), ob 4 [.ref (q 1), .ref (q 2), .ref (q 3), .ref (q 4), .ref (q 5), .ref (q 6), .ref (q 7), .int (0 : Int32), .int (0 : Int32), .int (0 : Int32), .int (0 : Int32), .int (0 : Int32), .int (0 : Int32)]), ((q 1), aI K 8 (Qu_loadAddress v)), ((q 2), aI K 8 (Qu_loadWord v)), ((q 3), aI K 8 (Qu_branch v)), ((q 4), aI K 8 (Qu_heldAddress v)), ((q 5), aI K 8 (Qu_heldWord v)), ((q 6), aI K 8 (Qu_besideAddress v)), ((q 7), aI K 8 (Qu_besideWord v))]) cx cf_X5 0 12 rfl (by decide) (Nat.le_of_ble_eq_true rfl) rfl pfd_I wd_363 dX5_clear_27 rfl ?_
  have hi := inj1 hf
  exact r_vret (pc := 30) cx (by rw [← hi]; (try simp only [cl_Qu, Qu_loadAddress_mk, Qu_loadWord_mk, Qu_branch_mk, Qu_heldAddress_mk, Qu_heldWord_mk, Qu_besideAddress_mk, Qu_besideWord_mk, Qu_firstLoad_mk, Qu_loads_mk, Qu_firstBranch_mk, Qu_branches_mk, Qu_held_mk, Qu_comparedHeld_mk, List.cons_append, List.nil_append, List.append_nil]) <;> rfl) dX5_clear_30
theorem yv_X5_clear : YV yX5_clear cX5_clear 1 (none) 0 := ⟨⟨by decide +kernel, by decide +kernel, by decide +kernel⟩, wd_500, wd_97, wd_498, wd_499⟩
abbrev rm_Qu_copyFrom : Room := { frames := 1, cells := 0, slots := 0, locals := 40 }
set_option maxRecDepth 100000 in
set_option maxHeartbeats 4000000 in
theorem m_Qu_copyFrom (l : Launch) (D : va_G) (K : Nat → ClassId) (q : Nat → Nat) (v : T_Qu) (qw : Nat → Nat) (w : T_Qu) {o_v : T_Qu} (hf : f_Qu_copyFrom v w = some o_v) : MV l yX5_copyFrom cX5_copyFrom 2 (none) rm_Qu_copyFrom D K [.ref (q 0), .ref (qw 0)] (cl_Qu K q v ++ (cl_Qu K qw w)) (cl_Qu K q o_v ++ (cl_Qu K qw w)) := by
  refine MV_of (loc0 := [(0, .ref (q 0)), (1, .ref (qw 0))]) (by decide +kernel) rfl (Nat.le_of_ble_eq_true rfl) ?_
  intro p e s m args below meth c A cx
  unfold f_Qu_copyFrom at hf
  refine r_ws (ws' := [((q 0), ob 4 [.ref (q 1), .ref (q 2), .ref (q 3), .ref (q 4), .ref (q 5), .ref (q 6), .ref (q 7), .int (Qu_firstLoad v), .int (Qu_loads v), .int (Qu_firstBranch v), .int (Qu_branches v), .int (Qu_held v), .int (Qu_comparedHeld v)]), ((q 1), aI K 8 (Qu_loadAddress v)), ((q 2), aI K 8 (Qu_loadWord v)), ((q 3), aI K 8 (Qu_branch v)), ((q 4), aI K 8 (Qu_heldAddress v)), ((q 5), aI K 8 (Qu_heldWord v)), ((q 6), aI K 8 (Qu_besideAddress v)), ((q 7), aI K 8 (Qu_besideWord v)), ((qw 0), ob 4 [.ref (qw 1), .ref (qw 2), .ref (qw 3), .ref (qw 4), .ref (qw 5), .ref (qw 6), .ref (qw 7), .int (Qu_firstLoad w), .int (Qu_loads w), .int (Qu_firstBranch w), .int (Qu_branches w), .int (Qu_held w), .int (Qu_comparedHeld w)]), ((qw 1), aI K 8 (Qu_loadAddress w)), ((qw 2), aI K 8 (Qu_loadWord w)), ((qw 3), aI K 8 (Qu_branch w)), ((qw 4), aI K 8 (Qu_heldAddress w)), ((qw 5), aI K 8 (Qu_heldWord w)), ((qw 6), aI K 8 (Qu_besideAddress w)), ((qw 7), aI K 8 (Qu_besideWord w))]) rfl ?_
  refine r_aload_n (pc := 0) cx dX5_copyFrom_0 1 rfl ?_
  refine r_get (pc := 1) cx cf_X5 8 0 rfl (by decide) rfl wd_343 dX5_copyFrom_1 ?_
  refine r_iconst (pc := 4) cx dX5_copyFrom_4 ic_0 ?_
  refine r_aload_n (pc := 5) cx dX5_copyFrom_5 0 rfl ?_
  refine r_get (pc := 6) cx cf_X5 0 0 rfl (by decide) rfl wd_343 dX5_copyFrom_6 ?_
  refine r_iconst (pc := 9) cx dX5_copyFrom_9 ic_0 ?_
  refine r_bipush (pc := 10) cx dX5_copyFrom_10 bp_8 ?_
  replace hf := nm_of hf
  obtain ⟨f1, ef1, hf⟩ := hf
  refine r_copyI (pc := 12) (ws' := [((q 0), ob 4 [.ref (q 1), .ref (q 2), .ref (q 3), .ref (q 4), .ref (q 5), .ref (q 6), .ref (q 7), .int (Qu_firstLoad v), .int (Qu_loads v), .int (Qu_firstBranch v), .int (Qu_branches v), .int (Qu_held v), .int (Qu_comparedHeld v)]), ((q 1), aI K 8 f1), ((q 2), aI K 8 (Qu_loadWord v)), ((q 3), aI K 8 (Qu_branch v)), ((q 4), aI K 8 (Qu_heldAddress v)), ((q 5), aI K 8 (Qu_heldWord v)), ((q 6), aI K 8 (Qu_besideAddress v)), ((q 7), aI K 8 (Qu_besideWord v)), ((qw 0), ob 4 [.ref (qw 1), .ref (qw 2), .ref (qw 3), .ref (qw 4), .ref (qw 5), .ref (qw 6), .ref (qw 7), .int (Qu_firstLoad w), .int (Qu_loads w), .int (Qu_firstBranch w), .int (Qu_branches w), .int (Qu_held w), .int (Qu_comparedHeld w)]), ((qw 1), aI K 8 (Qu_loadAddress w)), ((qw 2), aI K 8 (Qu_loadWord w)), ((qw 3), aI K 8 (Qu_branch w)), ((qw 4), aI K 8 (Qu_heldAddress w)), ((qw 5), aI K 8 (Qu_heldWord w)), ((qw 6), aI K 8 (Qu_besideAddress w)), ((qw 7), aI K 8 (Qu_besideWord w))]) cx 9 1 rfl rfl (by decide) (nn := 8) (by decide) (by decide) (by decide) ef1 wd_1055 wd_488 wd_487 wd_100 (by decide) (by decide) dX5_copyFrom_12 rfl ?_
  refine r_aload_n (pc := 15) cx dX5_copyFrom_15 1 rfl ?_
  refine r_get (pc := 16) cx cf_X5 8 1 rfl (by decide) rfl wd_344 dX5_copyFrom_16 ?_
  refine r_iconst (pc := 19) cx dX5_copyFrom_19 ic_0 ?_
  refine r_aload_n (pc := 20) cx dX5_copyFrom_20 0 rfl ?_
  refine r_get (pc := 21) cx cf_X5 0 1 rfl (by decide) rfl wd_344 dX5_copyFrom_21 ?_
  refine r_iconst (pc := 24) cx dX5_copyFrom_24 ic_0 ?_
  refine r_bipush (pc := 25) cx dX5_copyFrom_25 bp_8 ?_
  replace hf := nm_of hf
  obtain ⟨f2, ef2, hf⟩ := hf
  refine r_copyI (pc := 27) (ws' := [((q 0), ob 4 [.ref (q 1), .ref (q 2), .ref (q 3), .ref (q 4), .ref (q 5), .ref (q 6), .ref (q 7), .int (Qu_firstLoad v), .int (Qu_loads v), .int (Qu_firstBranch v), .int (Qu_branches v), .int (Qu_held v), .int (Qu_comparedHeld v)]), ((q 1), aI K 8 f1), ((q 2), aI K 8 f2), ((q 3), aI K 8 (Qu_branch v)), ((q 4), aI K 8 (Qu_heldAddress v)), ((q 5), aI K 8 (Qu_heldWord v)), ((q 6), aI K 8 (Qu_besideAddress v)), ((q 7), aI K 8 (Qu_besideWord v)), ((qw 0), ob 4 [.ref (qw 1), .ref (qw 2), .ref (qw 3), .ref (qw 4), .ref (qw 5), .ref (qw 6), .ref (qw 7), .int (Qu_firstLoad w), .int (Qu_loads w), .int (Qu_firstBranch w), .int (Qu_branches w), .int (Qu_held w), .int (Qu_comparedHeld w)]), ((qw 1), aI K 8 (Qu_loadAddress w)), ((qw 2), aI K 8 (Qu_loadWord w)), ((qw 3), aI K 8 (Qu_branch w)), ((qw 4), aI K 8 (Qu_heldAddress w)), ((qw 5), aI K 8 (Qu_heldWord w)), ((qw 6), aI K 8 (Qu_besideAddress w)), ((qw 7), aI K 8 (Qu_besideWord w))]) cx 10 2 rfl rfl (by decide) (nn := 8) (by decide) (by decide) (by decide) ef2 wd_1055 wd_488 wd_487 wd_100 (by decide) (by decide) dX5_copyFrom_27 rfl ?_
  refine r_aload_n (pc := 30) cx dX5_copyFrom_30 1 rfl ?_
  refine r_get (pc := 31) cx cf_X5 8 2 rfl (by decide) rfl wd_345 dX5_copyFrom_31 ?_
  refine r_iconst (pc := 34) cx dX5_copyFrom_34 ic_0 ?_
  refine r_aload_n (pc := 35) cx dX5_copyFrom_35 0 rfl ?_
  refine r_get (pc := 36) cx cf_X5 0 2 rfl (by decide) rfl wd_345 dX5_copyFrom_36 ?_
  refine r_iconst (pc := 39) cx dX5_copyFrom_39 ic_0 ?_
  refine r_bipush (pc := 40) cx dX5_copyFrom_40 bp_8 ?_
  replace hf := nm_of hf
  obtain ⟨f3, ef3, hf⟩ := hf
  refine r_copyI (pc := 42) (ws' := [((q 0), ob 4 [.ref (q 1), .ref (q 2), .ref (q 3), .ref (q 4), .ref (q 5), .ref (q 6), .ref (q 7), .int (Qu_firstLoad v), .int (Qu_loads v), .int (Qu_firstBranch v), .int (Qu_branches v), .int (Qu_held v), .int (Qu_comparedHeld v)]), ((q 1), aI K 8 f1), ((q 2), aI K 8 f2), ((q 3), aI K 8 f3), ((q 4), aI K 8 (Qu_heldAddress v)), ((q 5), aI K 8 (Qu_heldWord v)), ((q 6), aI K 8 (Qu_besideAddress v)), ((q 7), aI K 8 (Qu_besideWord v)), ((qw 0), ob 4 [.ref (qw 1), .ref (qw 2), .ref (qw 3), .ref (qw 4), .ref (qw 5), .ref (qw 6), .ref (qw 7), .int (Qu_firstLoad w), .int (Qu_loads w), .int (Qu_firstBranch w), .int (Qu_branches w), .int (Qu_held w), .int (Qu_comparedHeld w)]), ((qw 1), aI K 8 (Qu_loadAddress w)), ((qw 2), aI K 8 (Qu_loadWord w)), ((qw 3), aI K 8 (Qu_branch w)), ((qw 4), aI K 8 (Qu_heldAddress w)), ((qw 5), aI K 8 (Qu_heldWord w)), ((qw 6), aI K 8 (Qu_besideAddress w)), ((qw 7), aI K 8 (Qu_besideWord w))]) cx 11 3 rfl rfl (by decide) (nn := 8) (by decide) (by decide) (by decide) ef3 wd_1055 wd_488 wd_487 wd_100 (by decide) (by decide) dX5_copyFrom_42 rfl ?_
  refine r_aload_n (pc := 45) cx dX5_copyFrom_45 1 rfl ?_
  refine r_get (pc := 46) cx cf_X5 8 3 rfl (by decide) rfl wd_346 dX5_copyFrom_46 ?_
  refine r_iconst (pc := 49) cx dX5_copyFrom_49 ic_0 ?_
  refine r_aload_n (pc := 50) cx dX5_copyFrom_50 0 rfl ?_
  refine r_get (pc := 51) cx cf_X5 0 3 rfl (by decide) rfl wd_346 dX5_copyFrom_51 ?_
  refine r_iconst (pc := 54) cx dX5_copyFrom_54 ic_0 ?_
  refine r_bipush (pc := 55) cx dX5_copyFrom_55 bp_8 ?_
  replace hf := nm_of hf
  obtain ⟨f4, ef4, hf⟩ := hf
  refine r_copyI (pc := 57) (ws' := [((q 0), ob 4 [.ref (q 1), .ref (q 2), .ref (q 3), .ref (q 4), .ref (q 5), .ref (q 6), .ref (q 7), .int (Qu_firstLoad v), .int (Qu_loads v), .int (Qu_firstBranch v), .int (Qu_branches v), .int (Qu_held v), .int (Qu_comparedHeld v)]), ((q 1), aI K 8 f1), ((q 2), aI K 8 f2), ((q 3), aI K 8 f3), ((q 4), aI K 8 f4), ((q 5), aI K 8 (Qu_heldWord v)), ((q 6), aI K 8 (Qu_besideAddress v)), ((q 7), aI K 8 (Qu_besideWord v)), ((qw 0), ob 4 [.ref (qw 1), .ref (qw 2), .ref (qw 3), .ref (qw 4), .ref (qw 5), .ref (qw 6), .ref (qw 7), .int (Qu_firstLoad w), .int (Qu_loads w), .int (Qu_firstBranch w), .int (Qu_branches w), .int (Qu_held w), .int (Qu_comparedHeld w)]), ((qw 1), aI K 8 (Qu_loadAddress w)), ((qw 2), aI K 8 (Qu_loadWord w)), ((qw 3), aI K 8 (Qu_branch w)), ((qw 4), aI K 8 (Qu_heldAddress w)), ((qw 5), aI K 8 (Qu_heldWord w)), ((qw 6), aI K 8 (Qu_besideAddress w)), ((qw 7), aI K 8 (Qu_besideWord w))]) cx 12 4 rfl rfl (by decide) (nn := 8) (by decide) (by decide) (by decide) ef4 wd_1055 wd_488 wd_487 wd_100 (by decide) (by decide) dX5_copyFrom_57 rfl ?_
  refine r_aload_n (pc := 60) cx dX5_copyFrom_60 1 rfl ?_
  refine r_get (pc := 61) cx cf_X5 8 4 rfl (by decide) rfl wd_348 dX5_copyFrom_61 ?_
  refine r_iconst (pc := 64) cx dX5_copyFrom_64 ic_0 ?_
  refine r_aload_n (pc := 65) cx dX5_copyFrom_65 0 rfl ?_
  refine r_get (pc := 66) cx cf_X5 0 4 rfl (by decide) rfl wd_348 dX5_copyFrom_66 ?_
  refine r_iconst (pc := 69) cx dX5_copyFrom_69 ic_0 ?_
  refine r_bipush (pc := 70) cx dX5_copyFrom_70 bp_8 ?_
  replace hf := nm_of hf
  obtain ⟨f5, ef5, hf⟩ := hf
  refine r_copyI (pc := 72) (ws' := [((q 0), ob 4 [.ref (q 1), .ref (q 2), .ref (q 3), .ref (q 4), .ref (q 5), .ref (q 6), .ref (q 7), .int (Qu_firstLoad v), .int (Qu_loads v), .int (Qu_firstBranch v), .int (Qu_branches v), .int (Qu_held v), .int (Qu_comparedHeld v)]), ((q 1), aI K 8 f1), ((q 2), aI K 8 f2), ((q 3), aI K 8 f3), ((q 4), aI K 8 f4), ((q 5), aI K 8 f5), ((q 6), aI K 8 (Qu_besideAddress v)), ((q 7), aI K 8 (Qu_besideWord v)), ((qw 0), ob 4 [.ref (qw 1), .ref (qw 2), .ref (qw 3), .ref (qw 4), .ref (qw 5), .ref (qw 6), .ref (qw 7), .int (Qu_firstLoad w), .int (Qu_loads w), .int (Qu_firstBranch w), .int (Qu_branches w), .int (Qu_held w), .int (Qu_comparedHeld w)]), ((qw 1), aI K 8 (Qu_loadAddress w)), ((qw 2), aI K 8 (Qu_loadWord w)), ((qw 3), aI K 8 (Qu_branch w)), ((qw 4), aI K 8 (Qu_heldAddress w)), ((qw 5), aI K 8 (Qu_heldWord w)), ((qw 6), aI K 8 (Qu_besideAddress w)), ((qw 7), aI K 8 (Qu_besideWord w))]) cx 13 5 rfl rfl (by decide) (nn := 8) (by decide) (by decide) (by decide) ef5 wd_1055 wd_488 wd_487 wd_100 (by decide) (by decide) dX5_copyFrom_72 rfl ?_
  refine r_aload_n (pc := 75) cx dX5_copyFrom_75 1 rfl ?_
  refine r_get (pc := 76) cx cf_X5 8 5 rfl (by decide) rfl wd_350 dX5_copyFrom_76 ?_
  refine r_iconst (pc := 79) cx dX5_copyFrom_79 ic_0 ?_
  refine r_aload_n (pc := 80) cx dX5_copyFrom_80 0 rfl ?_
  refine r_get (pc := 81) cx cf_X5 0 5 rfl (by decide) rfl wd_350 dX5_copyFrom_81 ?_
  refine r_iconst (pc := 84) cx dX5_copyFrom_84 ic_0 ?_
  refine r_bipush (pc := 85) cx dX5_copyFrom_85 bp_8 ?_
  replace hf := nm_of hf
  obtain ⟨f6, ef6, hf⟩ := hf
  refine r_copyI (pc := 87) (ws' := [((q 0), ob 4 [.ref (q 1), .ref (q 2), .ref (q 3), .ref (q 4), .ref (q 5), .ref (q 6), .ref (q 7), .int (Qu_firstLoad v), .int (Qu_loads v), .int (Qu_firstBranch v), .int (Qu_branches v), .int (Qu_held v), .int (Qu_comparedHeld v)]), ((q 1), aI K 8 f1), ((q 2), aI K 8 f2), ((q 3), aI K 8 f3), ((q 4), aI K 8 f4), ((q 5), aI K 8 f5), ((q 6), aI K 8 f6), ((q 7), aI K 8 (Qu_besideWord v)), ((qw 0), ob 4 [.ref (qw 1), .ref (qw 2), .ref (qw 3), .ref (qw 4), .ref (qw 5), .ref (qw 6), .ref (qw 7), .int (Qu_firstLoad w), .int (Qu_loads w), .int (Qu_firstBranch w), .int (Qu_branches w), .int (Qu_held w), .int (Qu_comparedHeld w)]), ((qw 1), aI K 8 (Qu_loadAddress w)), ((qw 2), aI K 8 (Qu_loadWord w)), ((qw 3), aI K 8 (Qu_branch w)), ((qw 4), aI K 8 (Qu_heldAddress w)), ((qw 5), aI K 8 (Qu_heldWord w)), ((qw 6), aI K 8 (Qu_besideAddress w)), ((qw 7), aI K 8 (Qu_besideWord w))]) cx 14 6 rfl rfl (by decide) (nn := 8) (by decide) (by decide) (by decide) ef6 wd_1055 wd_488 wd_487 wd_100 (by decide) (by decide) dX5_copyFrom_87 rfl ?_
  refine r_aload_n (pc := 90) cx dX5_copyFrom_90 1 rfl ?_
  refine r_get (pc := 91) cx cf_X5 8 6 rfl (by decide) rfl wd_351 dX5_copyFrom_91 ?_
  refine r_iconst (pc := 94) cx dX5_copyFrom_94 ic_0 ?_
  refine r_aload_n (pc := 95) cx dX5_copyFrom_95 0 rfl ?_
  refine r_get (pc := 96) cx cf_X5 0 6 rfl (by decide) rfl wd_351 dX5_copyFrom_96 ?_
  refine r_iconst (pc := 99) cx dX5_copyFrom_99 ic_0 ?_
  refine r_bipush (pc := 100) cx dX5_copyFrom_100 bp_8 ?_
  replace hf := nm_of hf
  obtain ⟨f7, ef7, hf⟩ := hf
  refine r_copyI (pc := 102) (ws' := [((q 0), ob 4 [.ref (q 1), .ref (q 2), .ref (q 3), .ref (q 4), .ref (q 5), .ref (q 6), .ref (q 7), .int (Qu_firstLoad v), .int (Qu_loads v), .int (Qu_firstBranch v), .int (Qu_branches v), .int (Qu_held v), .int (Qu_comparedHeld v)]), ((q 1), aI K 8 f1), ((q 2), aI K 8 f2), ((q 3), aI K 8 f3), ((q 4), aI K 8 f4), ((q 5), aI K 8 f5), ((q 6), aI K 8 f6), ((q 7), aI K 8 f7), ((qw 0), ob 4 [.ref (qw 1), .ref (qw 2), .ref (qw 3), .ref (qw 4), .ref (qw 5), .ref (qw 6), .ref (qw 7), .int (Qu_firstLoad w), .int (Qu_loads w), .int (Qu_firstBranch w), .int (Qu_branches w), .int (Qu_held w), .int (Qu_comparedHeld w)]), ((qw 1), aI K 8 (Qu_loadAddress w)), ((qw 2), aI K 8 (Qu_loadWord w)), ((qw 3), aI K 8 (Qu_branch w)), ((qw 4), aI K 8 (Qu_heldAddress w)), ((qw 5), aI K 8 (Qu_heldWord w)), ((qw 6), aI K 8 (Qu_besideAddress w)), ((qw 7), aI K 8 (Qu_besideWord w))]) cx 15 7 rfl rfl (by decide) (nn := 8) (by decide) (by decide) (by decide) ef7 wd_1055 wd_488 wd_487 wd_100 (by decide) (by decide) dX5_copyFrom_102 rfl ?_
  refine r_aload_n (pc := 105) cx dX5_copyFrom_105 0 rfl ?_
  refine r_aload_n (pc := 106) cx dX5_copyFrom_106 1 rfl ?_
  refine r_get (pc := 107) cx cf_X5 8 7 rfl (by decide) rfl wd_352 dX5_copyFrom_107 ?_
  replace hf := nm_of hf
  obtain ⟨x8, ex8, hf⟩ := hf
  refine r_nm ex8 ?_
  refine r_putI (pc := 110) (ws' := [((q 0), ob 4 [.ref (q 1), .ref (q 2), .ref (q 3), .ref (q 4), .ref (q 5), .ref (q 6), .ref (q 7), .int x8, .int (Qu_loads v), .int (Qu_firstBranch v), .int (Qu_branches v), .int (Qu_held v), .int (Qu_comparedHeld v)]), ((q 1), aI K 8 f1), ((q 2), aI K 8 f2), ((q 3), aI K 8 f3), ((q 4), aI K 8 f4), ((q 5), aI K 8 f5), ((q 6), aI K 8 f6), ((q 7), aI K 8 f7), ((qw 0), ob 4 [.ref (qw 1), .ref (qw 2), .ref (qw 3), .ref (qw 4), .ref (qw 5), .ref (qw 6), .ref (qw 7), .int (Qu_firstLoad w), .int (Qu_loads w), .int (Qu_firstBranch w), .int (Qu_branches w), .int (Qu_held w), .int (Qu_comparedHeld w)]), ((qw 1), aI K 8 (Qu_loadAddress w)), ((qw 2), aI K 8 (Qu_loadWord w)), ((qw 3), aI K 8 (Qu_branch w)), ((qw 4), aI K 8 (Qu_heldAddress w)), ((qw 5), aI K 8 (Qu_heldWord w)), ((qw 6), aI K 8 (Qu_besideAddress w)), ((qw 7), aI K 8 (Qu_besideWord w))]) cx cf_X5 0 7 rfl (by decide) (Nat.le_of_ble_eq_true rfl) rfl pfd_I wd_352 dX5_copyFrom_110 rfl ?_
  refine r_aload_n (pc := 113) cx dX5_copyFrom_113 0 rfl ?_
  refine r_aload_n (pc := 114) cx dX5_copyFrom_114 1 rfl ?_
  refine r_get (pc := 115) cx cf_X5 8 8 rfl (by decide) rfl wd_353 dX5_copyFrom_115 ?_
  replace hf := nm_of hf
  obtain ⟨x9, ex9, hf⟩ := hf
  refine r_nm ex9 ?_
  refine r_putI (pc := 118) (ws' := [((q 0), ob 4 [.ref (q 1), .ref (q 2), .ref (q 3), .ref (q 4), .ref (q 5), .ref (q 6), .ref (q 7), .int x8, .int x9, .int (Qu_firstBranch v), .int (Qu_branches v), .int (Qu_held v), .int (Qu_comparedHeld v)]), ((q 1), aI K 8 f1), ((q 2), aI K 8 f2), ((q 3), aI K 8 f3), ((q 4), aI K 8 f4), ((q 5), aI K 8 f5), ((q 6), aI K 8 f6), ((q 7), aI K 8 f7), ((qw 0), ob 4 [.ref (qw 1), .ref (qw 2), .ref (qw 3), .ref (qw 4), .ref (qw 5), .ref (qw 6), .ref (qw 7), .int (Qu_firstLoad w), .int (Qu_loads w), .int (Qu_firstBranch w), .int (Qu_branches w), .int (Qu_held w), .int (Qu_comparedHeld w)]), ((qw 1), aI K 8 (Qu_loadAddress w)), ((qw 2), aI K 8 (Qu_loadWord w)), ((qw 3), aI K 8 (Qu_branch w)), ((qw 4), aI K 8 (Qu_heldAddress w)), ((qw 5), aI K 8 (Qu_heldWord w)), ((qw 6), aI K 8 (Qu_besideAddress w)), ((qw 7), aI K 8 (Qu_besideWord w))]) cx cf_X5 0 8 rfl (by decide) (Nat.le_of_ble_eq_true rfl) rfl pfd_I wd_353 dX5_copyFrom_118 rfl ?_
  refine r_aload_n (pc := 121) cx dX5_copyFrom_121 0 rfl ?_
  refine r_aload_n (pc := 122) cx dX5_copyFrom_122 1 rfl ?_
  refine r_get (pc := 123) cx cf_X5 8 9 rfl (by decide) rfl wd_356 dX5_copyFrom_123 ?_
  replace hf := nm_of hf
  obtain ⟨x10, ex10, hf⟩ := hf
  refine r_nm ex10 ?_
  refine r_putI (pc := 126) (ws' := [((q 0), ob 4 [.ref (q 1), .ref (q 2), .ref (q 3), .ref (q 4), .ref (q 5), .ref (q 6), .ref (q 7), .int x8, .int x9, .int x10, .int (Qu_branches v), .int (Qu_held v), .int (Qu_comparedHeld v)]), ((q 1), aI K 8 f1), ((q 2), aI K 8 f2), ((q 3), aI K 8 f3), ((q 4), aI K 8 f4), ((q 5), aI K 8 f5), ((q 6), aI K 8 f6), ((q 7), aI K 8 f7), ((qw 0), ob 4 [.ref (qw 1), .ref (qw 2), .ref (qw 3), .ref (qw 4), .ref (qw 5), .ref (qw 6), .ref (qw 7), .int (Qu_firstLoad w), .int (Qu_loads w), .int (Qu_firstBranch w), .int (Qu_branches w), .int (Qu_held w), .int (Qu_comparedHeld w)]), ((qw 1), aI K 8 (Qu_loadAddress w)), ((qw 2), aI K 8 (Qu_loadWord w)), ((qw 3), aI K 8 (Qu_branch w)), ((qw 4), aI K 8 (Qu_heldAddress w)), ((qw 5), aI K 8 (Qu_heldWord w)), ((qw 6), aI K 8 (Qu_besideAddress w)), ((qw 7), aI K 8 (Qu_besideWord w))]) cx cf_X5 0 9 rfl (by decide) (Nat.le_of_ble_eq_true rfl) rfl pfd_I wd_356 dX5_copyFrom_126 rfl ?_
  refine r_aload_n (pc := 129) cx dX5_copyFrom_129 0 rfl ?_
  refine r_aload_n (pc := 130) cx dX5_copyFrom_130 1 rfl ?_
  refine r_get (pc := 131) cx cf_X5 8 10 rfl (by decide) rfl wd_357 dX5_copyFrom_131 ?_
  replace hf := nm_of hf
  obtain ⟨x11, ex11, hf⟩ := hf
  refine r_nm ex11 ?_
  refine r_putI (pc := 134) (ws' := [((q 0), ob 4 [.ref (q 1), .ref (q 2), .ref (q 3), .ref (q 4), .ref (q 5), .ref (q 6), .ref (q 7), .int x8, .int x9, .int x10, .int x11, .int (Qu_held v), .int (Qu_comparedHeld v)]), ((q 1), aI K 8 f1), ((q 2), aI K 8 f2), ((q 3), aI K 8 f3), ((q 4), aI K 8 f4), ((q 5), aI K 8 f5), ((q 6), aI K 8 f6), ((q 7), aI K 8 f7), ((qw 0), ob 4 [.ref (qw 1), .ref (qw 2), .ref (qw 3), .ref (qw 4), .ref (qw 5), .ref (qw 6), .ref (qw 7), .int (Qu_firstLoad w), .int (Qu_loads w), .int (Qu_firstBranch w), .int (Qu_branches w), .int (Qu_held w), .int (Qu_comparedHeld w)]), ((qw 1), aI K 8 (Qu_loadAddress w)), ((qw 2), aI K 8 (Qu_loadWord w)), ((qw 3), aI K 8 (Qu_branch w)), ((qw 4), aI K 8 (Qu_heldAddress w)), ((qw 5), aI K 8 (Qu_heldWord w)), ((qw 6), aI K 8 (Qu_besideAddress w)), ((qw 7), aI K 8 (Qu_besideWord w))]) cx cf_X5 0 10 rfl (by decide) (Nat.le_of_ble_eq_true rfl) rfl pfd_I wd_357 dX5_copyFrom_134 rfl ?_
  refine r_aload_n (pc := 137) cx dX5_copyFrom_137 0 rfl ?_
  refine r_aload_n (pc := 138) cx dX5_copyFrom_138 1 rfl ?_
  refine r_get (pc := 139) cx cf_X5 8 11 rfl (by decide) rfl wd_360 dX5_copyFrom_139 ?_
  replace hf := nm_of hf
  obtain ⟨x12, ex12, hf⟩ := hf
  refine r_nm ex12 ?_
  refine r_putI (pc := 142) (ws' := [((q 0), ob 4 [.ref (q 1), .ref (q 2), .ref (q 3), .ref (q 4), .ref (q 5), .ref (q 6), .ref (q 7), .int x8, .int x9, .int x10, .int x11, .int x12, .int (Qu_comparedHeld v)]), ((q 1), aI K 8 f1), ((q 2), aI K 8 f2), ((q 3), aI K 8 f3), ((q 4), aI K 8 f4), ((q 5), aI K 8 f5), ((q 6), aI K 8 f6), ((q 7), aI K 8 f7), ((qw 0), ob 4 [.ref (qw 1), .ref (qw 2), .ref (qw 3), .ref (qw 4), .ref (qw 5), .ref (qw 6), .ref (qw 7), .int (Qu_firstLoad w), .int (Qu_loads w), .int (Qu_firstBranch w), .int (Qu_branches w), .int (Qu_held w), .int (Qu_comparedHeld w)]), ((qw 1), aI K 8 (Qu_loadAddress w)), ((qw 2), aI K 8 (Qu_loadWord w)), ((qw 3), aI K 8 (Qu_branch w)), ((qw 4), aI K 8 (Qu_heldAddress w)), ((qw 5), aI K 8 (Qu_heldWord w)), ((qw 6), aI K 8 (Qu_besideAddress w)), ((qw 7), aI K 8 (Qu_besideWord w))]) cx cf_X5 0 11 rfl (by decide) (Nat.le_of_ble_eq_true rfl) rfl pfd_I wd_360 dX5_copyFrom_142 rfl ?_
  refine r_aload_n (pc := 145) cx dX5_copyFrom_145 0 rfl ?_
  refine r_aload_n (pc := 146) cx dX5_copyFrom_146 1 rfl ?_
  refine r_get (pc := 147) cx cf_X5 8 12 rfl (by decide) rfl wd_363 dX5_copyFrom_147 ?_
  replace hf := nm_of hf
  obtain ⟨x13, ex13, hf⟩ := hf
  refine r_nm ex13 ?_
  refine r_putI (pc := 150) (ws' := [((q 0), ob 4 [.ref (q 1), .ref (q 2), .ref (q 3), .ref (q 4), .ref (q 5), .ref (q 6), .ref (q 7), .int x8, .int x9, .int x10, .int x11, .int x12, .int x13]), ((q 1), aI K 8 f1), ((q 2), aI K 8 f2), ((q 3), aI K 8 f3), ((q 4), aI K 8 f4), ((q 5), aI K 8 f5), ((q 6), aI K 8 f6), ((q 7), aI K 8 f7), ((qw 0), ob 4 [.ref (qw 1), .ref (qw 2), .ref (qw 3), .ref (qw 4), .ref (qw 5), .ref (qw 6), .ref (qw 7), .int (Qu_firstLoad w), .int (Qu_loads w), .int (Qu_firstBranch w), .int (Qu_branches w), .int (Qu_held w), .int (Qu_comparedHeld w)]), ((qw 1), aI K 8 (Qu_loadAddress w)), ((qw 2), aI K 8 (Qu_loadWord w)), ((qw 3), aI K 8 (Qu_branch w)), ((qw 4), aI K 8 (Qu_heldAddress w)), ((qw 5), aI K 8 (Qu_heldWord w)), ((qw 6), aI K 8 (Qu_besideAddress w)), ((qw 7), aI K 8 (Qu_besideWord w))]) cx cf_X5 0 12 rfl (by decide) (Nat.le_of_ble_eq_true rfl) rfl pfd_I wd_363 dX5_copyFrom_150 rfl ?_
  have hi := inj1 hf
  exact r_vret (pc := 153) cx (by rw [← hi]; (try simp only [cl_Qu, Qu_loadAddress_mk, Qu_loadWord_mk, Qu_branch_mk, Qu_heldAddress_mk, Qu_heldWord_mk, Qu_besideAddress_mk, Qu_besideWord_mk, Qu_firstLoad_mk, Qu_loads_mk, Qu_firstBranch_mk, Qu_branches_mk, Qu_held_mk, Qu_comparedHeld_mk, List.cons_append, List.nil_append, List.append_nil]) <;> rfl) dX5_copyFrom_153
theorem yv_X5_copyFrom : YV yX5_copyFrom cX5_copyFrom 2 (none) 1 := ⟨⟨by decide +kernel, by decide +kernel, by decide +kernel⟩, wd_1054, wd_97, wd_1052, wd_1053⟩
