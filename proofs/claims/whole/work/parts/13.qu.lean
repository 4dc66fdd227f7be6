def f_Ou_begin (v : T_Ou) (ar : (Nat → Int32)) : Option (T_Ou) :=
  (nm (va_cpy ar (Ou_memory v) 0 0 32) fun (f1 : Nat → Int32) => (some (f1, (Ou_output v), (Ou_leftAddress v), (Ou_leftWord v), (Ou_leftPoint v), (0 : Int32), (0 : Int32))))
abbrev rm_Ou_begin : Room := { frames := 1, cells := 0, slots := 0, locals := 40 }
set_option maxRecDepth 100000 in
set_option maxHeartbeats 4000000 in
theorem m_Ou_begin (l : Launch) (D : va_G) (K : Nat → ClassId) (q : Nat → Nat) (v : T_Ou) (qz : Nat → Nat) (ar : (Nat → Int32)) {o_v : T_Ou} (hf : f_Ou_begin v ar = some o_v) : MV l yX2_begin cX2_begin 2 (none) rm_Ou_begin D K [.ref (q 0), .ref (qz 0)] (cl_Ou K q v ++ (cl_R K 32 qz ar)) (cl_Ou K q o_v ++ (cl_R K 32 qz ar)) := by
  refine MV_of (loc0 := [(0, .ref (q 0)), (1, .ref (qz 0))]) (by decide +kernel) rfl (Nat.le_of_ble_eq_true rfl) ?_
  intro p e s m args below meth c A cx
  unfold f_Ou_begin at hf
  refine r_ws (ws' := [((q 0), ob 1 [.ref (q 1), .ref (q 2), .ref (q 3), .ref (q 4), .ref (q 5), .int (Ou_stores v), .int (Ou_outputs v)]), ((q 1), aI K 32 (Ou_memory v)), ((q 2), aI K 40 (Ou_output v)), ((q 3), aI K 16 (Ou_leftAddress v)), ((q 4), aI K 16 (Ou_leftWord v)), ((q 5), aI K 16 (Ou_leftPoint v)), ((qz 0), aI K 32 ar)]) rfl ?_
  refine r_aload_n (pc := 0) cx dX2_begin_0 1 rfl ?_
  refine r_iconst (pc := 1) cx dX2_begin_1 ic_0 ?_
  refine r_aload_n (pc := 2) cx dX2_begin_2 0 rfl ?_
  refine r_get (pc := 3) cx cf_X2 0 0 rfl (by decide) rfl wd_398 dX2_begin_3 ?_
  refine r_iconst (pc := 6) cx dX2_begin_6 ic_0 ?_
  refine r_bipush (pc := 7) cx dX2_begin_7 bp_32 ?_
  obtain ⟨f1, ef1, hf⟩ := nm_of hf
  refine r_copyI (pc := 9) (ws' := [((q 0), ob 1 [.ref (q 1), .ref (q 2), .ref (q 3), .ref (q 4), .ref (q 5), .int (Ou_stores v), .int (Ou_outputs v)]), ((q 1), aI K 32 f1), ((q 2), aI K 40 (Ou_output v)), ((q 3), aI K 16 (Ou_leftAddress v)), ((q 4), aI K 16 (Ou_leftWord v)), ((q 5), aI K 16 (Ou_leftPoint v)), ((qz 0), aI K 32 ar)]) cx 6 1 rfl rfl (by decide) (nn := 32) (by decide) (by decide) (by decide) ef1 wd_505 wd_488 wd_487 wd_100 (by decide) (by decide) dX2_begin_9 rfl ?_
  refine r_aload_n (pc := 12) cx dX2_begin_12 0 rfl ?_
  refine r_iconst (pc := 13) cx dX2_begin_13 ic_0 ?_
  refine r_putI (pc := 14) (ws' := [((q 0), ob 1 [.ref (q 1), .ref (q 2), .ref (q 3), .ref (q 4), .ref (q 5), .int (0 : Int32), .int (Ou_outputs v)]), ((q 1), aI K 32 f1), ((q 2), aI K 40 (Ou_output v)), ((q 3), aI K 16 (Ou_leftAddress v)), ((q 4), aI K 16 (Ou_leftWord v)), ((q 5), aI K 16 (Ou_leftPoint v)), ((qz 0), aI K 32 ar)]) cx cf_X2 0 5 rfl (by decide) (Nat.le_of_ble_eq_true rfl) rfl pfd_I wd_405 dX2_begin_14 rfl ?_
  refine r_aload_n (pc := 17) cx dX2_begin_17 0 rfl ?_
  refine r_iconst (pc := 18) cx dX2_begin_18 ic_0 ?_
  refine r_putI (pc := 19) (ws' := [((q 0), ob 1 [.ref (q 1), .ref (q 2), .ref (q 3), .ref (q 4), .ref (q 5), .int (0 : Int32), .int (0 : Int32)]), ((q 1), aI K 32 f1), ((q 2), aI K 40 (Ou_output v)), ((q 3), aI K 16 (Ou_leftAddress v)), ((q 4), aI K 16 (Ou_leftWord v)), ((q 5), aI K 16 (Ou_leftPoint v)), ((qz 0), aI K 32 ar)]) cx cf_X2 0 6 rfl (by decide) (Nat.le_of_ble_eq_true rfl) rfl pfd_I wd_407 dX2_begin_19 rfl ?_
  cases hf
  exact r_vret (pc := 22) cx rfl dX2_begin_22
theorem yv_X2_begin : YV yX2_begin cX2_begin 2 (none) 1 := ⟨⟨by decide +kernel, by decide +kernel, by decide +kernel⟩, wd_504, wd_98, wd_502, wd_503⟩
def f_Ou_copyFrom (v : T_Ou) (w : T_Ou) : Option (T_Ou) :=
  (nm (va_cpy (Ou_memory w) (Ou_memory v) 0 0 32) fun (f1 : Nat → Int32) => (nm (va_cpy (Ou_output w) (Ou_output v) 0 0 40) fun (f2 : Nat → Int32) => (nm (va_cpy (Ou_leftAddress w) (Ou_leftAddress v) 0 0 16) fun (f3 : Nat → Int32) => (nm (va_cpy (Ou_leftWord w) (Ou_leftWord v) 0 0 16) fun (f4 : Nat → Int32) => (nm (va_cpy (Ou_leftPoint w) (Ou_leftPoint v) 0 0 16) fun (f5 : Nat → Int32) => (nm (Ou_stores w) fun (x6 : Int32) => (nm (Ou_outputs w) fun (x7 : Int32) => (some (f1, f2, f3, f4, f5, x6, x7)))))))))
abbrev rm_Ou_copyFrom : Room := { frames := 1, cells := 0, slots := 0, locals := 40 }
set_option maxRecDepth 100000 in
set_option maxHeartbeats 4000000 in
theorem m_Ou_copyFrom (l : Launch) (D : va_G) (K : Nat → ClassId) (q : Nat → Nat) (v : T_Ou) (qw : Nat → Nat) (w : T_Ou) {o_v : T_Ou} (hf : f_Ou_copyFrom v w = some o_v) : MV l yX2_copyFrom cX2_copyFrom 2 (none) rm_Ou_copyFrom D K [.ref (q 0), .ref (qw 0)] (cl_Ou K q v ++ (cl_Ou K qw w)) (cl_Ou K q o_v ++ (cl_Ou K qw w)) := by
  refine MV_of (loc0 := [(0, .ref (q 0)), (1, .ref (qw 0))]) (by decide +kernel) rfl (Nat.le_of_ble_eq_true rfl) ?_
  intro p e s m args below meth c A cx
  unfold f_Ou_copyFrom at hf
  refine r_ws (ws' := [((q 0), ob 1 [.ref (q 1), .ref (q 2), .ref (q 3), .ref (q 4), .ref (q 5), .int (Ou_stores v), .int (Ou_outputs v)]), ((q 1), aI K 32 (Ou_memory v)), ((q 2), aI K 40 (Ou_output v)), ((q 3), aI K 16 (Ou_leftAddress v)), ((q 4), aI K 16 (Ou_leftWord v)), ((q 5), aI K 16 (Ou_leftPoint v)), ((qw 0), ob 1 [.ref (qw 1), .ref (qw 2), .ref (qw 3), .ref (qw 4), .ref (qw 5), .int (Ou_stores w), .int (Ou_outputs w)]), ((qw 1), aI K 32 (Ou_memory w)), ((qw 2), aI K 40 (Ou_output w)), ((qw 3), aI K 16 (Ou_leftAddress w)), ((qw 4), aI K 16 (Ou_leftWord w)), ((qw 5), aI K 16 (Ou_leftPoint w))]) rfl ?_
  refine r_aload_n (pc := 0) cx dX2_copyFrom_0 1 rfl ?_
  refine r_get (pc := 1) cx cf_X2 6 0 rfl (by decide) rfl wd_398 dX2_copyFrom_1 ?_
  refine r_iconst (pc := 4) cx dX2_copyFrom_4 ic_0 ?_
  refine r_aload_n (pc := 5) cx dX2_copyFrom_5 0 rfl ?_
  refine r_get (pc := 6) cx cf_X2 0 0 rfl (by decide) rfl wd_398 dX2_copyFrom_6 ?_
  refine r_iconst (pc := 9) cx dX2_copyFrom_9 ic_0 ?_
  refine r_bipush (pc := 10) cx dX2_copyFrom_10 bp_32 ?_
  obtain ⟨f1, ef1, hf⟩ := nm_of hf
  refine r_copyI (pc := 12) (ws' := [((q 0), ob 1 [.ref (q 1), .ref (q 2), .ref (q 3), .ref (q 4), .ref (q 5), .int (Ou_stores v), .int (Ou_outputs v)]), ((q 1), aI K 32 f1), ((q 2), aI K 40 (Ou_output v)), ((q 3), aI K 16 (Ou_leftAddress v)), ((q 4), aI K 16 (Ou_leftWord v)), ((q 5), aI K 16 (Ou_leftPoint v)), ((qw 0), ob 1 [.ref (qw 1), .ref (qw 2), .ref (qw 3), .ref (qw 4), .ref (qw 5), .int (Ou_stores w), .int (Ou_outputs w)]), ((qw 1), aI K 32 (Ou_memory w)), ((qw 2), aI K 40 (Ou_output w)), ((qw 3), aI K 16 (Ou_leftAddress w)), ((qw 4), aI K 16 (Ou_leftWord w)), ((qw 5), aI K 16 (Ou_leftPoint w))]) cx 7 1 rfl rfl (by decide) (nn := 32) (by decide) (by decide) (by decide) ef1 wd_505 wd_488 wd_487 wd_100 (by decide) (by decide) dX2_copyFrom_12 rfl ?_
  refine r_aload_n (pc := 15) cx dX2_copyFrom_15 1 rfl ?_
  refine r_get (pc := 16) cx cf_X2 6 1 rfl (by decide) rfl wd_401 dX2_copyFrom_16 ?_
  refine r_iconst (pc := 19) cx dX2_copyFrom_19 ic_0 ?_
  refine r_aload_n (pc := 20) cx dX2_copyFrom_20 0 rfl ?_
  refine r_get (pc := 21) cx cf_X2 0 1 rfl (by decide) rfl wd_401 dX2_copyFrom_21 ?_
  refine r_iconst (pc := 24) cx dX2_copyFrom_24 ic_0 ?_
  refine r_bipush (pc := 25) cx dX2_copyFrom_25 bp_40 ?_
  obtain ⟨f2, ef2, hf⟩ := nm_of hf
  refine r_copyI (pc := 27) (ws' := [((q 0), ob 1 [.ref (q 1), .ref (q 2), .ref (q 3), .ref (q 4), .ref (q 5), .int (Ou_stores v), .int (Ou_outputs v)]), ((q 1), aI K 32 f1), ((q 2), aI K 40 f2), ((q 3), aI K 16 (Ou_leftAddress v)), ((q 4), aI K 16 (Ou_leftWord v)), ((q 5), aI K 16 (Ou_leftPoint v)), ((qw 0), ob 1 [.ref (qw 1), .ref (qw 2), .ref (qw 3), .ref (qw 4), .ref (qw 5), .int (Ou_stores w), .int (Ou_outputs w)]), ((qw 1), aI K 32 (Ou_memory w)), ((qw 2), aI K 40 (Ou_output w)), ((qw 3), aI K 16 (Ou_leftAddress w)), ((qw 4), aI K 16 (Ou_leftWord w)), ((qw 5), aI K 16 (Ou_leftPoint w))]) cx 8 2 rfl rfl (by decide) (nn := 40) (by decide) (by decide) (by decide) ef2 wd_505 wd_488 wd_487 wd_100 (by decide) (by decide) dX2_copyFrom_27 rfl ?_
  refine r_aload_n (pc := 30) cx dX2_copyFrom_30 1 rfl ?_
  refine r_get (pc := 31) cx cf_X2 6 2 rfl (by decide) rfl wd_402 dX2_copyFrom_31 ?_
  refine r_iconst (pc := 34) cx dX2_copyFrom_34 ic_0 ?_
  refine r_aload_n (pc := 35) cx dX2_copyFrom_35 0 rfl ?_
  refine r_get (pc := 36) cx cf_X2 0 2 rfl (by decide) rfl wd_402 dX2_copyFrom_36 ?_
  refine r_iconst (pc := 39) cx dX2_copyFrom_39 ic_0 ?_
  refine r_bipush (pc := 40) cx dX2_copyFrom_40 bp_16 ?_
  obtain ⟨f3, ef3, hf⟩ := nm_of hf
  refine r_copyI (pc := 42) (ws' := [((q 0), ob 1 [.ref (q 1), .ref (q 2), .ref (q 3), .ref (q 4), .ref (q 5), .int (Ou_stores v), .int (Ou_outputs v)]), ((q 1), aI K 32 f1), ((q 2), aI K 40 f2), ((q 3), aI K 16 f3), ((q 4), aI K 16 (Ou_leftWord v)), ((q 5), aI K 16 (Ou_leftPoint v)), ((qw 0), ob 1 [.ref (qw 1), .ref (qw 2), .ref (qw 3), .ref (qw 4), .ref (qw 5), .int (Ou_stores w), .int (Ou_outputs w)]), ((qw 1), aI K 32 (Ou_memory w)), ((qw 2), aI K 40 (Ou_output w)), ((qw 3), aI K 16 (Ou_leftAddress w)), ((qw 4), aI K 16 (Ou_leftWord w)), ((qw 5), aI K 16 (Ou_leftPoint w))]) cx 9 3 rfl rfl (by decide) (nn := 16) (by decide) (by decide) (by decide) ef3 wd_505 wd_488 wd_487 wd_100 (by decide) (by decide) dX2_copyFrom_42 rfl ?_
  refine r_aload_n (pc := 45) cx dX2_copyFrom_45 1 rfl ?_
  refine r_get (pc := 46) cx cf_X2 6 3 rfl (by decide) rfl wd_403 dX2_copyFrom_46 ?_
  refine r_iconst (pc := 49) cx dX2_copyFrom_49 ic_0 ?_
  refine r_aload_n (pc := 50) cx dX2_copyFrom_50 0 rfl ?_
  refine r_get (pc := 51) cx cf_X2 0 3 rfl (by decide) rfl wd_403 dX2_copyFrom_51 ?_
  refine r_iconst (pc := 54) cx dX2_copyFrom_54 ic_0 ?_
  refine r_bipush (pc := 55) cx dX2_copyFrom_55 bp_16 ?_
  obtain ⟨f4, ef4, hf⟩ := nm_of hf
  refine r_copyI (pc := 57) (ws' := [((q 0), ob 1 [.ref (q 1), .ref (q 2), .ref (q 3), .ref (q 4), .ref (q 5), .int (Ou_stores v), .int (Ou_outputs v)]), ((q 1), aI K 32 f1), ((q 2), aI K 40 f2), ((q 3), aI K 16 f3), ((q 4), aI K 16 f4), ((q 5), aI K 16 (Ou_leftPoint v)), ((qw 0), ob 1 [.ref (qw 1), .ref (qw 2), .ref (qw 3), .ref (qw 4), .ref (qw 5), .int (Ou_stores w), .int (Ou_outputs w)]), ((qw 1), aI K 32 (Ou_memory w)), ((qw 2), aI K 40 (Ou_output w)), ((qw 3), aI K 16 (Ou_leftAddress w)), ((qw 4), aI K 16 (Ou_leftWord w)), ((qw 5), aI K 16 (Ou_leftPoint w))]) cx 10 4 rfl rfl (by decide) (nn := 16) (by decide) (by decide) (by decide) ef4 wd_505 wd_488 wd_487 wd_100 (by decide) (by decide) dX2_copyFrom_57 rfl ?_
  refine r_aload_n (pc := 60) cx dX2_copyFrom_60 1 rfl ?_
  refine r_get (pc := 61) cx cf_X2 6 4 rfl (by decide) rfl wd_404 dX2_copyFrom_61 ?_
  refine r_iconst (pc := 64) cx dX2_copyFrom_64 ic_0 ?_
  refine r_aload_n (pc := 65) cx dX2_copyFrom_65 0 rfl ?_
  refine r_get (pc := 66) cx cf_X2 0 4 rfl (by decide) rfl wd_404 dX2_copyFrom_66 ?_
  refine r_iconst (pc := 69) cx dX2_copyFrom_69 ic_0 ?_
  refine r_bipush (pc := 70) cx dX2_copyFrom_70 bp_16 ?_
  obtain ⟨f5, ef5, hf⟩ := nm_of hf
  refine r_copyI (pc := 72) (ws' := [((q 0), ob 1 [.ref (q 1), .ref (q 2), .ref (q 3), .ref (q 4), .ref (q 5), .int (Ou_stores v), .int (Ou_outputs v)]), ((q 1), aI K 32 f1), ((q 2), aI K 40 f2), ((q 3), aI K 16 f3), ((q 4), aI K 16 f4), ((q 5), aI K 16 f5), ((qw 0), ob 1 [.ref (qw 1), .ref (qw 2), .ref (qw 3), .ref (qw 4), .ref (qw 5), .int (Ou_stores w), .int (Ou_outputs w)]), ((qw 1), aI K 32 (Ou_memory w)), ((qw 2), aI K 40 (Ou_output w)), ((qw 3), aI K 16 (Ou_leftAddress w)), ((qw 4), aI K 16 (Ou_leftWord w)), ((qw 5), aI K 16 (Ou_leftPoint w))]) cx 11 5 rfl rfl (by decide) (nn := 16) (by decide) (by decide) (by decide) ef5 wd_505 wd_488 wd_487 wd_100 (by decide) (by decide) dX2_copyFrom_72 rfl ?_
  refine r_aload_n (pc := 75) cx dX2_copyFrom_75 0 rfl ?_
  refine r_aload_n (pc := 76) cx dX2_copyFrom_76 1 rfl ?_
  refine r_get (pc := 77) cx cf_X2 6 5 rfl (by decide) rfl wd_405 dX2_copyFrom_77 ?_
  obtain ⟨x6, ex6, hf⟩ := nm_of hf
  refine r_nm ex6 ?_
  refine r_putI (pc := 80) (ws' := [((q 0), ob 1 [.ref (q 1), .ref (q 2), .ref (q 3), .ref (q 4), .ref (q 5), .int x6, .int (Ou_outputs v)]), ((q 1), aI K 32 f1), ((q 2), aI K 40 f2), ((q 3), aI K 16 f3), ((q 4), aI K 16 f4), ((q 5), aI K 16 f5), ((qw 0), ob 1 [.ref (qw 1), .ref (qw 2), .ref (qw 3), .ref (qw 4), .ref (qw 5), .int (Ou_stores w), .int (Ou_outputs w)]), ((qw 1), aI K 32 (Ou_memory w)), ((qw 2), aI K 40 (Ou_output w)), ((qw 3), aI K 16 (Ou_leftAddress w)), ((qw 4), aI K 16 (Ou_leftWord w)), ((qw 5), aI K 16 (Ou_leftPoint w))]) cx cf_X2 0 5 rfl (by decide) (Nat.le_of_ble_eq_true rfl) rfl pfd_I wd_405 dX2_copyFrom_80 rfl ?_
  refine r_aload_n (pc := 83) cx dX2_copyFrom_83 0 rfl ?_
  refine r_aload_n (pc := 84) cx dX2_copyFrom_84 1 rfl ?_
  refine r_get (pc := 85) cx cf_X2 6 6 rfl (by decide) rfl wd_407 dX2_copyFrom_85 ?_
  obtain ⟨x7, ex7, hf⟩ := nm_of hf
  refine r_nm ex7 ?_
  refine r_putI (pc := 88) (ws' := [((q 0), ob 1 [.ref (q 1), .ref (q 2), .ref (q 3), .ref (q 4), .ref (q 5), .int x6, .int x7]), ((q 1), aI K 32 f1), ((q 2), aI K 40 f2), ((q 3), aI K 16 f3), ((q 4), aI K 16 f4), ((q 5), aI K 16 f5), ((qw 0), ob 1 [.ref (qw 1), .ref (qw 2), .ref (qw 3), .ref (qw 4), .ref (qw 5), .int (Ou_stores w), .int (Ou_outputs w)]), ((qw 1), aI K 32 (Ou_memory w)), ((qw 2), aI K 40 (Ou_output w)), ((qw 3), aI K 16 (Ou_leftAddress w)), ((qw 4), aI K 16 (Ou_leftWord w)), ((qw 5), aI K 16 (Ou_leftPoint w))]) cx cf_X2 0 6 rfl (by decide) (Nat.le_of_ble_eq_true rfl) rfl pfd_I wd_407 dX2_copyFrom_88 rfl ?_
  cases hf
  exact r_vret (pc := 91) cx rfl dX2_copyFrom_91
theorem yv_X2_copyFrom : YV yX2_copyFrom cX2_copyFrom 2 (none) 1 := ⟨⟨by decide +kernel, by decide +kernel, by decide +kernel⟩, wd_1059, wd_98, wd_1057, wd_1058⟩
def f_Ou_receive (v : T_Ou) (a1 : Int32) (a2 : Int32) (a3 : Int32) : Option (T_Ou) :=
  (nm (((Ou_stores v) + (Ou_outputs v)) &&& (15 : Int32)) fun (x1 : Int32) => (nm (if (32 : Int32) < a1 then (32 : Int32) else a1) fun (x2 : Int32) => (nm (upd (Ou_leftAddress v) x1.toNatClampNeg x2) fun (f3 : Nat → Int32) => (nm (upd (Ou_leftWord v) x1.toNatClampNeg a2) fun (f4 : Nat → Int32) => (nm (upd (Ou_leftPoint v) x1.toNatClampNeg a3) fun (f5 : Nat → Int32) => (if (32 : Int32) ≤ a1 then (nm (fm_v (Ou_outputs v) (40 : Int32)) fun (x7 : Int32) => (if ix x7 40 then (nm (upd (Ou_output v) x7.toNatClampNeg a2) fun (f9 : Nat → Int32) => (nm ((Ou_outputs v) + (1 : Int32)) fun (x10 : Int32) => (some ((Ou_memory v), f9, f3, f4, f5, (Ou_stores v), x10)))) else none)) else (nm (upd (Ou_memory v) ((a1 &&& (31 : Int32))).toNatClampNeg a2) fun (f11 : Nat → Int32) => (nm ((Ou_stores v) + (1 : Int32)) fun (x12 : Int32) => (some (f11, (Ou_output v), f3, f4, f5, x12, (Ou_outputs v)))))))))))
abbrev rm_Ou_receive : Room := { frames := 1, cells := 0, slots := 0, locals := 23 }
set_option maxRecDepth 100000 in
set_option maxHeartbeats 4000000 in
theorem m_Ou_receive (l : Launch) (D : va_G) (K : Nat → ClassId) (q : Nat → Nat) (v : T_Ou) (a1 : Int32) (a2 : Int32) (a3 : Int32) {o_v : T_Ou} (hf : f_Ou_receive v a1 a2 a3 = some o_v) : MV l yX2_receive cX2_receive 5 (none) rm_Ou_receive D K [.ref (q 0), .int a1, .int a2, .int a3] (cl_Ou K q v) (cl_Ou K q o_v) := by
  refine MV_of (loc0 := [(0, .ref (q 0)), (1, .int a1), (2, .int a2), (3, .int a3)]) (by decide +kernel) rfl (Nat.le_of_ble_eq_true rfl) ?_
  intro p e s m args below meth c A cx
  unfold f_Ou_receive at hf
  refine r_ws (ws' := [((q 0), ob 1 [.ref (q 1), .ref (q 2), .ref (q 3), .ref (q 4), .ref (q 5), .int (Ou_stores v), .int (Ou_outputs v)]), ((q 1), aI K 32 (Ou_memory v)), ((q 2), aI K 40 (Ou_output v)), ((q 3), aI K 16 (Ou_leftAddress v)), ((q 4), aI K 16 (Ou_leftWord v)), ((q 5), aI K 16 (Ou_leftPoint v))]) rfl ?_
  refine r_aload_n (pc := 0) cx dX2_receive_0 0 rfl ?_
  refine r_get (pc := 1) cx cf_X2 0 5 rfl (by decide) rfl wd_405 dX2_receive_1 ?_
  refine r_aload_n (pc := 4) cx dX2_receive_4 0 rfl ?_
  refine r_get (pc := 5) cx cf_X2 0 6 rfl (by decide) rfl wd_407 dX2_receive_5 ?_
  refine r_iadd (pc := 8) cx dX2_receive_8 ?_
  refine r_bipush (pc := 9) cx dX2_receive_9 bp_15 ?_
  refine r_iand (pc := 11) cx dX2_receive_11 ?_
  obtain ⟨x1, ex1, hf⟩ := nm_of hf
  refine r_nm ex1 ?_
  refine r_istore (pc := 12) (loc' := [(4, .int x1), (0, .ref (q 0)), (1, .int a1), (2, .int a2), (3, .int a3)]) cx dX2_receive_12 (by decide) rfl ?_
  refine r_aload_n (pc := 14) cx dX2_receive_14 1 rfl ?_
  refine r_get (pc := 15) cx cf_X2 0 2 rfl (by decide) rfl wd_402 dX2_receive_15 ?_
  refine r_iload (pc := 18) cx dX2_receive_18 0 rfl ?_
  refine r_iload_n (pc := 20) cx dX2_receive_20 2 rfl ?_
  refine r_bipush (pc := 21) cx dX2_receive_21 bp_32 ?_
  refine r_mmin (pc := 23) cx wd_896 ys_J9_min_7cf53 (by decide) (Nat.le_of_ble_eq_true rfl) dX2_receive_23 ?_
  obtain ⟨x2, ex2, hf⟩ := nm_of hf
  refine r_nm ex2 ?_
  obtain ⟨f3, ef3, hf⟩ := nm_of hf
  refine r_iast (pc := 26) (ws' := [((q 0), ob 1 [.ref (q 1), .ref (q 2), .ref (q 3), .ref (q 4), .ref (q 5), .int (Ou_stores v), .int (Ou_outputs v)]), ((q 1), aI K 32 (Ou_memory v)), ((q 2), aI K 40 (Ou_output v)), ((q 3), aI K 16 f3), ((q 4), aI K 16 (Ou_leftWord v)), ((q 5), aI K 16 (Ou_leftPoint v))]) cx 3 rfl (by rw [ex1]; exact ix_and15 _) dX2_receive_26 ef3 rfl ?_
  refine r_aload_n (pc := 27) cx dX2_receive_27 1 rfl ?_
  refine r_get (pc := 28) cx cf_X2 0 3 rfl (by decide) rfl wd_403 dX2_receive_28 ?_
  refine r_iload (pc := 31) cx dX2_receive_31 0 rfl ?_
  refine r_iload_n (pc := 33) cx dX2_receive_33 3 rfl ?_
  obtain ⟨f4, ef4, hf⟩ := nm_of hf
  refine r_iast (pc := 34) (ws' := [((q 0), ob 1 [.ref (q 1), .ref (q 2), .ref (q 3), .ref (q 4), .ref (q 5), .int (Ou_stores v), .int (Ou_outputs v)]), ((q 1), aI K 32 (Ou_memory v)), ((q 2), aI K 40 (Ou_output v)), ((q 3), aI K 16 f3), ((q 4), aI K 16 f4), ((q 5), aI K 16 (Ou_leftPoint v))]) cx 4 rfl (by rw [ex1]; exact ix_and15 _) dX2_receive_34 ef4 rfl ?_
  refine r_aload_n (pc := 35) cx dX2_receive_35 1 rfl ?_
  refine r_get (pc := 36) cx cf_X2 0 4 rfl (by decide) rfl wd_404 dX2_receive_36 ?_
  refine r_iload (pc := 39) cx dX2_receive_39 0 rfl ?_
  refine r_iload_n (pc := 41) cx dX2_receive_41 4 rfl ?_
  obtain ⟨f5, ef5, hf⟩ := nm_of hf
  refine r_iast (pc := 42) (ws' := [((q 0), ob 1 [.ref (q 1), .ref (q 2), .ref (q 3), .ref (q 4), .ref (q 5), .int (Ou_stores v), .int (Ou_outputs v)]), ((q 1), aI K 32 (Ou_memory v)), ((q 2), aI K 40 (Ou_output v)), ((q 3), aI K 16 f3), ((q 4), aI K 16 f4), ((q 5), aI K 16 f5)]) cx 5 rfl (by rw [ex1]; exact ix_and15 _) dX2_receive_42 ef5 rfl ?_
  refine r_iload_n (pc := 43) cx dX2_receive_43 2 rfl ?_
  refine r_bipush (pc := 44) cx dX2_receive_44 bp_32 ?_
  refine r_icmp_ge (pc := 46) (tgt := 72) cx dX2_receive_46 (by decide) (fun h6 => ?_) (fun h6 => ?_)
  · have hf := ifp h6 hf
    refine r_aload_n (pc := 72) cx dX2_receive_72 1 rfl ?_
    refine r_get (pc := 73) cx cf_X2 0 1 rfl (by decide) rfl wd_401 dX2_receive_73 ?_
    refine r_aload_n (pc := 76) cx dX2_receive_76 1 rfl ?_
    refine r_get (pc := 77) cx cf_X2 0 6 rfl (by decide) rfl wd_407 dX2_receive_77 ?_
    refine r_bipush (pc := 80) cx dX2_receive_80 bp_40 ?_
    refine r_fmod (pc := 82) cx (by decide) wd_897 ys_J9_floorMod_7cf53 (by decide) (Nat.le_of_ble_eq_true rfl) dX2_receive_82 ?_
    obtain ⟨x7, ex7, hf⟩ := nm_of hf
    refine r_nm ex7 ?_
    refine r_iload_n (pc := 85) cx dX2_receive_85 3 rfl ?_
    obtain ⟨h8, hf⟩ := chk_of hf
    obtain ⟨f9, ef9, hf⟩ := nm_of hf
    refine r_iast (pc := 86) (ws' := [((q 0), ob 1 [.ref (q 1), .ref (q 2), .ref (q 3), .ref (q 4), .ref (q 5), .int (Ou_stores v), .int (Ou_outputs v)]), ((q 1), aI K 32 (Ou_memory v)), ((q 2), aI K 40 f9), ((q 3), aI K 16 f3), ((q 4), aI K 16 f4), ((q 5), aI K 16 f5)]) cx 2 rfl h8 dX2_receive_86 ef9 rfl ?_
    refine r_aload_n (pc := 87) cx dX2_receive_87 1 rfl ?_
    refine r_dup (pc := 88) cx dX2_receive_88 rfl ?_
    refine r_get (pc := 89) cx cf_X2 0 6 rfl (by decide) rfl wd_407 dX2_receive_89 ?_
    refine r_iconst (pc := 92) cx dX2_receive_92 ic_1 ?_
    refine r_iadd (pc := 93) cx dX2_receive_93 ?_
    obtain ⟨x10, ex10, hf⟩ := nm_of hf
    refine r_nm ex10 ?_
    refine r_putI (pc := 94) (ws' := [((q 0), ob 1 [.ref (q 1), .ref (q 2), .ref (q 3), .ref (q 4), .ref (q 5), .int (Ou_stores v), .int x10]), ((q 1), aI K 32 (Ou_memory v)), ((q 2), aI K 40 f9), ((q 3), aI K 16 f3), ((q 4), aI K 16 f4), ((q 5), aI K 16 f5)]) cx cf_X2 0 6 rfl (by decide) (Nat.le_of_ble_eq_true rfl) rfl pfd_I wd_407 dX2_receive_94 rfl ?_
    cases hf
    exact r_vret (pc := 97) cx rfl dX2_receive_97
  · have hf := ifn h6 hf
    refine r_aload_n (pc := 49) cx dX2_receive_49 1 rfl ?_
    refine r_get (pc := 50) cx cf_X2 0 0 rfl (by decide) rfl wd_398 dX2_receive_50 ?_
    refine r_iload_n (pc := 53) cx dX2_receive_53 2 rfl ?_
    refine r_bipush (pc := 54) cx dX2_receive_54 bp_31 ?_
    refine r_iand (pc := 56) cx dX2_receive_56 ?_
    refine r_iload_n (pc := 57) cx dX2_receive_57 3 rfl ?_
    obtain ⟨f11, ef11, hf⟩ := nm_of hf
    refine r_iast (pc := 58) (ws' := [((q 0), ob 1 [.ref (q 1), .ref (q 2), .ref (q 3), .ref (q 4), .ref (q 5), .int (Ou_stores v), .int (Ou_outputs v)]), ((q 1), aI K 32 f11), ((q 2), aI K 40 (Ou_output v)), ((q 3), aI K 16 f3), ((q 4), aI K 16 f4), ((q 5), aI K 16 f5)]) cx 1 rfl (ix_and31 _) dX2_receive_58 ef11 rfl ?_
    refine r_aload_n (pc := 59) cx dX2_receive_59 1 rfl ?_
    refine r_dup (pc := 60) cx dX2_receive_60 rfl ?_
    refine r_get (pc := 61) cx cf_X2 0 5 rfl (by decide) rfl wd_405 dX2_receive_61 ?_
    refine r_iconst (pc := 64) cx dX2_receive_64 ic_1 ?_
    refine r_iadd (pc := 65) cx dX2_receive_65 ?_
    obtain ⟨x12, ex12, hf⟩ := nm_of hf
    refine r_nm ex12 ?_
    refine r_putI (pc := 66) (ws' := [((q 0), ob 1 [.ref (q 1), .ref (q 2), .ref (q 3), .ref (q 4), .ref (q 5), .int x12, .int (Ou_outputs v)]), ((q 1), aI K 32 f11), ((q 2), aI K 40 (Ou_output v)), ((q 3), aI K 16 f3), ((q 4), aI K 16 f4), ((q 5), aI K 16 f5)]) cx cf_X2 0 5 rfl (by decide) (Nat.le_of_ble_eq_true rfl) rfl pfd_I wd_405 dX2_receive_66 rfl ?_
    refine r_goto (pc := 69) (tgt := 97) cx dX2_receive_69 (by decide) ?_
    cases hf
    exact r_vret (pc := 97) cx rfl dX2_receive_97
theorem yv_X2_receive : YV yX2_receive cX2_receive 5 (none) 3 := ⟨⟨by decide +kernel, by decide +kernel, by decide +kernel⟩, wd_895, wd_98, wd_893, wd_894⟩
def f_Ou_keptOutput (v : T_Ou) (a1 : Int32) : Option (Int32) :=
  (nm (if (40 : Int32) < (Ou_outputs v) then (40 : Int32) else (Ou_outputs v)) fun (x1 : Int32) => (if a1 < (0 : Int32) then (some (0 : Int32)) else (if a1 < x1 then (nm (fm_v (((Ou_outputs v) - x1) + a1) (40 : Int32)) fun (x4 : Int32) => (if ix x4 40 then (some ((Ou_output v) x4.toNatClampNeg)) else none)) else (some (0 : Int32)))))
abbrev rm_Ou_keptOutput : Room := { frames := 1, cells := 0, slots := 0, locals := 23 }
set_option maxRecDepth 100000 in
set_option maxHeartbeats 4000000 in
theorem m_Ou_keptOutput (l : Launch) (D : va_G) (K : Nat → ClassId) (q : Nat → Nat) (v : T_Ou) (a1 : Int32) {r_ : Int32} (hf : f_Ou_keptOutput v a1 = some r_) : MI l yX2_keptOutput cX2_keptOutput 3 (some .int) rm_Ou_keptOutput D K [.ref (q 0), .int a1] (cl_Ou K q v) r_ (cl_Ou K q v) := by
  refine MI_of (loc0 := [(0, .ref (q 0)), (1, .int a1)]) (by decide +kernel) rfl (Nat.le_of_ble_eq_true rfl) ?_
  intro p e s m args below meth c A cx
  unfold f_Ou_keptOutput at hf
  refine r_ws (ws' := [((q 0), ob 1 [.ref (q 1), .ref (q 2), .ref (q 3), .ref (q 4), .ref (q 5), .int (Ou_stores v), .int (Ou_outputs v)]), ((q 1), aI K 32 (Ou_memory v)), ((q 2), aI K 40 (Ou_output v)), ((q 3), aI K 16 (Ou_leftAddress v)), ((q 4), aI K 16 (Ou_leftWord v)), ((q 5), aI K 16 (Ou_leftPoint v))]) rfl ?_
  refine r_aload_n (pc := 0) cx dX2_keptOutput_0 0 rfl ?_
  refine r_get (pc := 1) cx cf_X2 0 6 rfl (by decide) rfl wd_407 dX2_keptOutput_1 ?_
  refine r_bipush (pc := 4) cx dX2_keptOutput_4 bp_40 ?_
  refine r_mmin (pc := 6) cx wd_896 ys_J9_min_7cf53 (by decide) (Nat.le_of_ble_eq_true rfl) dX2_keptOutput_6 ?_
  obtain ⟨x1, ex1, hf⟩ := nm_of hf
  refine r_nm ex1 ?_
  refine r_istore_n (pc := 9) (loc' := [(2, .int x1), (0, .ref (q 0)), (1, .int a1)]) cx dX2_keptOutput_9 rfl (by decide) rfl ?_
  refine r_iload_n (pc := 10) cx dX2_keptOutput_10 2 rfl ?_
  refine r_if_lt (pc := 11) (tgt := 19) cx dX2_keptOutput_11 (by decide) (fun h2 => ?_) (fun h2 => ?_)
  · have hf := ifp h2 hf
    refine r_iconst (pc := 19) cx dX2_keptOutput_19 ic_0 ?_
    refine r_goto (pc := 20) (tgt := 41) cx dX2_keptOutput_20 (by decide) ?_
    cases hf
    exact r_iret (pc := 41) cx rfl rfl dX2_keptOutput_41
  · have hf := ifn h2 hf
    refine r_iload_n (pc := 14) cx dX2_keptOutput_14 2 rfl ?_
    refine r_iload_n (pc := 15) cx dX2_keptOutput_15 0 rfl ?_
    refine r_icmp_lt (pc := 16) (tgt := 23) cx dX2_keptOutput_16 (by decide) (fun h3 => ?_) (fun h3 => ?_)
    · have hf := ifp h3 hf
      refine r_aload_n (pc := 23) cx dX2_keptOutput_23 1 rfl ?_
      refine r_get (pc := 24) cx cf_X2 0 1 rfl (by decide) rfl wd_401 dX2_keptOutput_24 ?_
      refine r_aload_n (pc := 27) cx dX2_keptOutput_27 1 rfl ?_
      refine r_get (pc := 28) cx cf_X2 0 6 rfl (by decide) rfl wd_407 dX2_keptOutput_28 ?_
      refine r_iload_n (pc := 31) cx dX2_keptOutput_31 0 rfl ?_
      refine r_isub (pc := 32) cx dX2_keptOutput_32 ?_
      refine r_iload_n (pc := 33) cx dX2_keptOutput_33 2 rfl ?_
      refine r_iadd (pc := 34) cx dX2_keptOutput_34 ?_
      refine r_bipush (pc := 35) cx dX2_keptOutput_35 bp_40 ?_
      refine r_fmod (pc := 37) cx (by decide) wd_897 ys_J9_floorMod_7cf53 (by decide) (Nat.le_of_ble_eq_true rfl) dX2_keptOutput_37 ?_
      obtain ⟨x4, ex4, hf⟩ := nm_of hf
      refine r_nm ex4 ?_
      obtain ⟨h5, hf⟩ := chk_of hf
      refine r_iald (pc := 40) cx 2 rfl h5 dX2_keptOutput_40 ?_
      cases hf
      exact r_iret (pc := 41) cx rfl rfl dX2_keptOutput_41
    · have hf := ifn h3 hf
      refine r_iconst (pc := 19) cx dX2_keptOutput_19 ic_0 ?_
      refine r_goto (pc := 20) (tgt := 41) cx dX2_keptOutput_20 (by decide) ?_
      cases hf
      exact r_iret (pc := 41) cx rfl rfl dX2_keptOutput_41
theorem yv_X2_keptOutput : YV yX2_keptOutput cX2_keptOutput 3 (some .int) 1 := ⟨⟨by decide +kernel, by decide +kernel, by decide +kernel⟩, wd_968, wd_98, wd_966, wd_967⟩
def f_Ou_journalSize (v : T_Ou) : Option (Int32) :=
  (nm (if (16 : Int32) < ((Ou_stores v) + (Ou_outputs v)) then (16 : Int32) else ((Ou_stores v) + (Ou_outputs v))) fun (x1 : Int32) => (some x1))
abbrev rm_Ou_journalSize : Room := { frames := 1, cells := 0, slots := 0, locals := 23 }
set_option maxRecDepth 100000 in
set_option maxHeartbeats 4000000 in
theorem m_Ou_journalSize (l : Launch) (D : va_G) (K : Nat → ClassId) (q : Nat → Nat) (v : T_Ou) {r_ : Int32} (hf : f_Ou_journalSize v = some r_) : MI l yX2_journalSize cX2_journalSize 1 (some .int) rm_Ou_journalSize D K [.ref (q 0)] (cl_Ou K q v) r_ (cl_Ou K q v) := by
  refine MI_of (loc0 := [(0, .ref (q 0))]) (by decide +kernel) rfl (Nat.le_of_ble_eq_true rfl) ?_
  intro p e s m args below meth c A cx
  unfold f_Ou_journalSize at hf
  refine r_ws (ws' := [((q 0), ob 1 [.ref (q 1), .ref (q 2), .ref (q 3), .ref (q 4), .ref (q 5), .int (Ou_stores v), .int (Ou_outputs v)]), ((q 1), aI K 32 (Ou_memory v)), ((q 2), aI K 40 (Ou_output v)), ((q 3), aI K 16 (Ou_leftAddress v)), ((q 4), aI K 16 (Ou_leftWord v)), ((q 5), aI K 16 (Ou_leftPoint v))]) rfl ?_
  refine r_aload_n (pc := 0) cx dX2_journalSize_0 0 rfl ?_
  refine r_get (pc := 1) cx cf_X2 0 5 rfl (by decide) rfl wd_405 dX2_journalSize_1 ?_
  refine r_aload_n (pc := 4) cx dX2_journalSize_4 0 rfl ?_
  refine r_get (pc := 5) cx cf_X2 0 6 rfl (by decide) rfl wd_407 dX2_journalSize_5 ?_
  refine r_iadd (pc := 8) cx dX2_journalSize_8 ?_
  refine r_bipush (pc := 9) cx dX2_journalSize_9 bp_16 ?_
  refine r_mmin (pc := 11) cx wd_896 ys_J9_min_7cf53 (by decide) (Nat.le_of_ble_eq_true rfl) dX2_journalSize_11 ?_
  obtain ⟨x1, ex1, hf⟩ := nm_of hf
  refine r_nm ex1 ?_
  cases hf
  exact r_iret (pc := 14) cx rfl rfl dX2_journalSize_14
theorem yv_X2_journalSize : YV yX2_journalSize cX2_journalSize 1 (some .int) 0 := ⟨⟨by decide +kernel, by decide +kernel, by decide +kernel⟩, wd_1154, wd_98, wd_1152, wd_1153⟩
def f_Ou_journalPart (v : T_Ou) (a1 : Int32) (a2 : Int32) : Option (Int32) :=
  (if a1 < (0 : Int32) then (some (0 : Int32)) else (bd (f_Ou_journalSize v) fun (r2 : Int32) => (if a1 < r2 then (bd (f_Ou_journalSize v) fun (r5 : Int32) => (nm (((((Ou_stores v) + (Ou_outputs v)) - r5) + a1) &&& (15 : Int32)) fun (x7 : Int32) => (if a2 = (0 : Int32) then (some ((Ou_leftAddress v) x7.toNatClampNeg)) else (if a2 = (1 : Int32) then (some ((Ou_leftWord v) x7.toNatClampNeg)) else (if a2 = (2 : Int32) then (some ((Ou_leftPoint v) x7.toNatClampNeg)) else (some (0 : Int32))))))) else (some (0 : Int32)))))
abbrev rm_Ou_journalPart : Room := { frames := 2, cells := 0, slots := 0, locals := 43 }
set_option maxRecDepth 100000 in
set_option maxHeartbeats 4000000 in
theorem m_Ou_journalPart (l : Launch) (D : va_G) (K : Nat → ClassId) (q : Nat → Nat) (v : T_Ou) (a1 : Int32) (a2 : Int32) {r_ : Int32} (hf : f_Ou_journalPart v a1 a2 = some r_) : MI l yX2_journalPart cX2_journalPart 4 (some .int) rm_Ou_journalPart D K [.ref (q 0), .int a1, .int a2] (cl_Ou K q v) r_ (cl_Ou K q v) := by
  refine MI_of (loc0 := [(0, .ref (q 0)), (1, .int a1), (2, .int a2)]) (by decide +kernel) rfl (Nat.le_of_ble_eq_true rfl) ?_
  intro p e s m args below meth c A cx
  unfold f_Ou_journalPart at hf
  refine r_ws (ws' := [((q 0), ob 1 [.ref (q 1), .ref (q 2), .ref (q 3), .ref (q 4), .ref (q 5), .int (Ou_stores v), .int (Ou_outputs v)]), ((q 1), aI K 32 (Ou_memory v)), ((q 2), aI K 40 (Ou_output v)), ((q 3), aI K 16 (Ou_leftAddress v)), ((q 4), aI K 16 (Ou_leftWord v)), ((q 5), aI K 16 (Ou_leftPoint v))]) rfl ?_
  refine r_iload_n (pc := 0) cx dX2_journalPart_0 1 rfl ?_
  refine r_if_lt (pc := 1) (tgt := 12) cx dX2_journalPart_1 (by decide) (fun h1 => ?_) (fun h1 => ?_)
  · have hf := ifp h1 hf
    refine r_iconst (pc := 12) cx dX2_journalPart_12 ic_0 ?_
    cases hf
    exact r_iret (pc := 13) cx rfl rfl dX2_journalPart_13
  · have hf := ifn h1 hf
    refine r_iload_n (pc := 4) cx dX2_journalPart_4 1 rfl ?_
    refine r_aload_n (pc := 5) cx dX2_journalPart_5 0 rfl ?_
    obtain ⟨r2, hc3, hf⟩ := bd_of hf
    refine r_Vi (pc := 6) (ws' := [((q 0), ob 1 [.ref (q 1), .ref (q 2), .ref (q 3), .ref (q 4), .ref (q 5), .int (Ou_stores v), .int (Ou_outputs v)]), ((q 1), aI K 32 (Ou_memory v)), ((q 2), aI K 40 (Ou_output v)), ((q 3), aI K 16 (Ou_leftAddress v)), ((q 4), aI K 16 (Ou_leftWord v)), ((q 5), aI K 16 (Ou_leftPoint v))]) cx [] [.int a1] [0, 1, 2, 3, 4, 5] (m_Ou_journalSize l D K q v hc3) yv_X2_journalSize wd_1151 ⟨rfl, rfl⟩ (by decide) rfl rfl rfl (by decide) 0 rfl rfl rfl (Nat.le_of_ble_eq_true rfl) dX2_journalPart_6 ?_
    refine r_icmp_lt (pc := 9) (tgt := 14) cx dX2_journalPart_9 (by decide) (fun h4 => ?_) (fun h4 => ?_)
    · have hf := ifp h4 hf
      refine r_aload_n (pc := 14) cx dX2_journalPart_14 0 rfl ?_
      refine r_get (pc := 15) cx cf_X2 0 5 rfl (by decide) rfl wd_405 dX2_journalPart_15 ?_
      refine r_aload_n (pc := 18) cx dX2_journalPart_18 0 rfl ?_
      refine r_get (pc := 19) cx cf_X2 0 6 rfl (by decide) rfl wd_407 dX2_journalPart_19 ?_
      refine r_iadd (pc := 22) cx dX2_journalPart_22 ?_
      refine r_aload_n (pc := 23) cx dX2_journalPart_23 0 rfl ?_
      obtain ⟨r5, hc6, hf⟩ := bd_of hf
      refine r_Vi (pc := 24) (ws' := [((q 0), ob 1 [.ref (q 1), .ref (q 2), .ref (q 3), .ref (q 4), .ref (q 5), .int (Ou_stores v), .int (Ou_outputs v)]), ((q 1), aI K 32 (Ou_memory v)), ((q 2), aI K 40 (Ou_output v)), ((q 3), aI K 16 (Ou_leftAddress v)), ((q 4), aI K 16 (Ou_leftWord v)), ((q 5), aI K 16 (Ou_leftPoint v))]) cx [] [.int ((Ou_stores v) + (Ou_outputs v))] [0, 1, 2, 3, 4, 5] (m_Ou_journalSize l D K q v hc6) yv_X2_journalSize wd_1151 ⟨rfl, rfl⟩ (by decide) rfl rfl rfl (by decide) 0 rfl rfl rfl (Nat.le_of_ble_eq_true rfl) dX2_journalPart_24 ?_
      refine r_isub (pc := 27) cx dX2_journalPart_27 ?_
      refine r_iload_n (pc := 28) cx dX2_journalPart_28 1 rfl ?_
      refine r_iadd (pc := 29) cx dX2_journalPart_29 ?_
      refine r_bipush (pc := 30) cx dX2_journalPart_30 bp_15 ?_
      refine r_iand (pc := 32) cx dX2_journalPart_32 ?_
      obtain ⟨x7, ex7, hf⟩ := nm_of hf
      refine r_nm ex7 ?_
      refine r_istore_n (pc := 33) (loc' := [(3, .int x7), (0, .ref (q 0)), (1, .int a1), (2, .int a2)]) cx dX2_journalPart_33 rfl (by decide) rfl ?_
      refine r_iload_n (pc := 34) cx dX2_journalPart_34 3 rfl ?_
      by_cases h8 : a2 = (0 : Int32)
      · have hf := ifp h8 hf
        refine r_tin (pc := 35) (tgt := 60) cx (0 : Int32) h8 dX2_journalPart_35 (by decide) (by decide) rfl (by decide) ?_
        refine r_aload_n (pc := 60) cx dX2_journalPart_60 1 rfl ?_
        refine r_get (pc := 61) cx cf_X2 0 2 rfl (by decide) rfl wd_402 dX2_journalPart_61 ?_
        refine r_iload_n (pc := 64) cx dX2_journalPart_64 0 rfl ?_
        refine r_iald (pc := 65) cx 3 rfl (by rw [ex7]; exact ix_and15 _) dX2_journalPart_65 ?_
        cases hf
        exact r_iret (pc := 66) cx rfl rfl dX2_journalPart_66
      · have hf := ifn h8 hf
        by_cases h9 : a2 = (1 : Int32)
        · have hf := ifp h9 hf
          refine r_tin (pc := 35) (tgt := 67) cx (1 : Int32) h9 dX2_journalPart_35 (by decide) (by decide) rfl (by decide) ?_
          refine r_aload_n (pc := 67) cx dX2_journalPart_67 1 rfl ?_
          refine r_get (pc := 68) cx cf_X2 0 3 rfl (by decide) rfl wd_403 dX2_journalPart_68 ?_
          refine r_iload_n (pc := 71) cx dX2_journalPart_71 0 rfl ?_
          refine r_iald (pc := 72) cx 4 rfl (by rw [ex7]; exact ix_and15 _) dX2_journalPart_72 ?_
          cases hf
          exact r_iret (pc := 73) cx rfl rfl dX2_journalPart_73
        · have hf := ifn h9 hf
          by_cases h10 : a2 = (2 : Int32)
          · have hf := ifp h10 hf
            refine r_tin (pc := 35) (tgt := 74) cx (2 : Int32) h10 dX2_journalPart_35 (by decide) (by decide) rfl (by decide) ?_
            refine r_aload_n (pc := 74) cx dX2_journalPart_74 1 rfl ?_
            refine r_get (pc := 75) cx cf_X2 0 4 rfl (by decide) rfl wd_404 dX2_journalPart_75 ?_
            refine r_iload_n (pc := 78) cx dX2_journalPart_78 0 rfl ?_
            refine r_iald (pc := 79) cx 5 rfl (by rw [ex7]; exact ix_and15 _) dX2_journalPart_79 ?_
            cases hf
            exact r_iret (pc := 80) cx rfl rfl dX2_journalPart_80
          · have hf := ifn h10 hf
            refine r_tout (pc := 35) (tgt := 81) cx dX2_journalPart_35 (by
              have nh8 := toInt_ne h8
              have mh8 : (0 : Int32).toInt = 0 := by decide
              rw [mh8] at nh8
              have nh9 := toInt_ne h9
              have mh9 : (1 : Int32).toInt = 1 := by decide
              rw [mh9] at nh9
              have nh10 := toInt_ne h10
              have mh10 : (2 : Int32).toInt = 2 := by decide
              rw [mh10] at nh10
              omega) (by decide) ?_
            refine r_iconst (pc := 81) cx dX2_journalPart_81 ic_0 ?_
            cases hf
            exact r_iret (pc := 82) cx rfl rfl dX2_journalPart_82
    · have hf := ifn h4 hf
      refine r_iconst (pc := 12) cx dX2_journalPart_12 ic_0 ?_
      cases hf
      exact r_iret (pc := 13) cx rfl rfl dX2_journalPart_13
theorem yv_X2_journalPart : YV yX2_journalPart cX2_journalPart 4 (some .int) 2 := ⟨⟨by decide +kernel, by decide +kernel, by decide +kernel⟩, wd_1150, wd_98, wd_1148, wd_1149⟩
def f_Pg_clear_L2  (k2_21 : (Nat → Int32) → Option (T_Pg)) : Nat → Int32 → (Nat → Int32) → Option (T_Pg)
  | 0, _, _ => none
  | n2 + 1, x1, f2 =>
    (if (64 : Int32) ≤ x1 then (k2_21 f2) else (if ix x1 64 then (nm (upd f2 x1.toNatClampNeg (0 : Int32)) fun (f6 : Nat → Int32) => (nm (x1 + (1 : Int32)) fun (x7 : Int32) => (f_Pg_clear_L2 k2_21 n2 x7 f6))) else none))
def f_Pg_clear_L23  (k23_42 : (Nat → Int32) → Option (T_Pg)) : Nat → Int32 → (Nat → Int32) → Option (T_Pg)
  | 0, _, _ => none
  | n23 + 1, x8, f9 =>
    (if (32 : Int32) ≤ x8 then (k23_42 f9) else (if ix x8 32 then (nm (upd f9 x8.toNatClampNeg (0 : Int32)) fun (f13 : Nat → Int32) => (nm (x8 + (1 : Int32)) fun (x14 : Int32) => (f_Pg_clear_L23 k23_42 n23 x14 f13))) else none))
def f_Pg_clear (v : T_Pg) : Option (T_Pg) :=
  (f_Pg_clear_L2 (fun (f3 : (Nat → Int32)) => (f_Pg_clear_L23 (fun (f10 : (Nat → Int32)) => (nm (upd (Pg_rules v) (0 : Int32).toNatClampNeg (8 : Int32)) fun (f15 : Nat → Int32) => (nm (upd f15 (1 : Int32).toNatClampNeg (1 : Int32)) fun (f16 : Nat → Int32) => (nm (upd f16 (2 : Int32).toNatClampNeg (4 : Int32)) fun (f17 : Nat → Int32) => (nm (upd f17 (3 : Int32).toNatClampNeg (4 : Int32)) fun (f18 : Nat → Int32) => (nm (upd f18 (4 : Int32).toNatClampNeg (4 : Int32)) fun (f19 : Nat → Int32) => (nm (upd f19 (5 : Int32).toNatClampNeg (4 : Int32)) fun (f20 : Nat → Int32) => (nm (upd f20 (6 : Int32).toNatClampNeg (3 : Int32)) fun (f21 : Nat → Int32) => (nm (upd f21 (7 : Int32).toNatClampNeg (0 : Int32)) fun (f22 : Nat → Int32) => (some (f3, (Pg_first v), (Pg_second v), (Pg_third v), f22, f10, (Pg_names v), (Pg_namedPlaces v), (0 : Int32), (0 : Int32), (0 : Int32)))))))))))) LF (0 : Int32) (Pg_data v))) LF (0 : Int32) (Pg_code v))
abbrev rm_Pg_clear : Room := { frames := 0, cells := 0, slots := 0, locals := 0 }
set_option maxRecDepth 100000 in
set_option maxHeartbeats 4000000 in
theorem m_Pg_clear (l : Launch) (D : va_G) (K : Nat → ClassId) (q : Nat → Nat) (v : T_Pg) {o_v : T_Pg} (hf : f_Pg_clear v = some o_v) : MV l yX4_clear cX4_clear 2 (none) rm_Pg_clear D K [.ref (q 0)] (cl_Pg K q v) (cl_Pg K q o_v) := by
  refine MV_of (loc0 := [(0, .ref (q 0))]) (by decide +kernel) rfl (Nat.le_of_ble_eq_true rfl) ?_
  intro p e s m args below meth c A cx
  unfold f_Pg_clear at hf
  refine r_ws (ws' := [((q 0), ob 3 [.ref (q 1), .ref (q 2), .ref (q 3), .ref (q 4), .ref (q 5), .ref (q 6), .ref (q 7), .ref (q 8), .int (Pg_nameCount v), .int (Pg_size v), .int (Pg_lines v)]), ((q 1), aI K 64 (Pg_code v)), ((q 2), aI K 64 (Pg_first v)), ((q 3), aI K 64 (Pg_second v)), ((q 4), aI K 64 (Pg_third v)), ((q 5), aI K 8 (Pg_rules v)), ((q 6), aI K 32 (Pg_data v)), ((q 7), aI K 140 (Pg_names v)), ((q 8), aI K 140 (Pg_namedPlaces v))]) rfl ?_
  refine r_iconst (pc := 0) cx dX4_clear_0 ic_0 ?_
  refine r_istore_n (pc := 1) (loc' := [(1, .int (0 : Int32)), (0, .ref (q 0))]) cx dX4_clear_1 rfl (by decide) rfl ?_
  have hL2 : ∀ (k2_21 : (Nat → Int32) → Option (T_Pg)), (∀ (f3 : (Nat → Int32)), k2_21 f3 = some o_v → WW p l e rm_Pg_clear s m args below meth c D A 2 0 0 (MQ below (QV D K A (cl_Pg K q o_v)) args s 0 0 A) ([((q 0), ob 3 [.ref (q 1), .ref (q 2), .ref (q 3), .ref (q 4), .ref (q 5), .ref (q 6), .ref (q 7), .ref (q 8), .int (Pg_nameCount v), .int (Pg_size v), .int (Pg_lines v)]), ((q 1), aI K 64 f3), ((q 2), aI K 64 (Pg_first v)), ((q 3), aI K 64 (Pg_second v)), ((q 4), aI K 64 (Pg_third v)), ((q 5), aI K 8 (Pg_rules v)), ((q 6), aI K 32 (Pg_data v)), ((q 7), aI K 140 (Pg_names v)), ((q 8), aI K 140 (Pg_namedPlaces v))]) ([(0, .ref (q 0))]) ([]) 21) → ∀ (n2 : Nat) (x1 : Int32) (f2 : (Nat → Int32)), f_Pg_clear_L2 k2_21 n2 x1 f2 = some o_v → WW p l e rm_Pg_clear s m args below meth c D A 2 0 0 (MQ below (QV D K A (cl_Pg K q o_v)) args s 0 0 A) ([((q 0), ob 3 [.ref (q 1), .ref (q 2), .ref (q 3), .ref (q 4), .ref (q 5), .ref (q 6), .ref (q 7), .ref (q 8), .int (Pg_nameCount v), .int (Pg_size v), .int (Pg_lines v)]), ((q 1), aI K 64 f2), ((q 2), aI K 64 (Pg_first v)), ((q 3), aI K 64 (Pg_second v)), ((q 4), aI K 64 (Pg_third v)), ((q 5), aI K 8 (Pg_rules v)), ((q 6), aI K 32 (Pg_data v)), ((q 7), aI K 140 (Pg_names v)), ((q 8), aI K 140 (Pg_namedPlaces v))]) ([(0, .ref (q 0)), (1, .int x1)]) ([]) 2 := by
    intro k2_21 hk2_21 n2
    induction n2 with
    | zero => intro x1 f2 hf; exact (nomatch (show (none : Option (T_Pg)) = some _ from hf))
    | succ n2 ih2 =>
      intro x1 f2 hf
      rw [f_Pg_clear_L2] at hf
      refine r_iload_n (pc := 2) cx dX4_clear_2 1 rfl ?_
      refine r_bipush (pc := 3) cx dX4_clear_3 bp_64 ?_
      refine r_icmp_ge (pc := 5) (tgt := 21) cx dX4_clear_5 (by decide) (fun h4 => ?_) (fun h4 => ?_)
      · have hf := ifp h4 hf
        refine r_loc (loc' := [(0, .ref (q 0))]) [0] rfl ?_
        exact hk2_21 _ hf
      · have hf := ifn h4 hf
        refine r_aload_n (pc := 8) cx dX4_clear_8 0 rfl ?_
        refine r_get (pc := 9) cx cf_X4 0 0 rfl (by decide) rfl wd_132 dX4_clear_9 ?_
        refine r_iload_n (pc := 12) cx dX4_clear_12 1 rfl ?_
        refine r_iconst (pc := 13) cx dX4_clear_13 ic_0 ?_
        obtain ⟨h5, hf⟩ := chk_of hf
        obtain ⟨f6, ef6, hf⟩ := nm_of hf
        refine r_iast (pc := 14) (ws' := [((q 0), ob 3 [.ref (q 1), .ref (q 2), .ref (q 3), .ref (q 4), .ref (q 5), .ref (q 6), .ref (q 7), .ref (q 8), .int (Pg_nameCount v), .int (Pg_size v), .int (Pg_lines v)]), ((q 1), aI K 64 f6), ((q 2), aI K 64 (Pg_first v)), ((q 3), aI K 64 (Pg_second v)), ((q 4), aI K 64 (Pg_third v)), ((q 5), aI K 8 (Pg_rules v)), ((q 6), aI K 32 (Pg_data v)), ((q 7), aI K 140 (Pg_names v)), ((q 8), aI K 140 (Pg_namedPlaces v))]) cx 1 rfl h5 dX4_clear_14 ef6 rfl ?_
        obtain ⟨x7, ex7, hf⟩ := nm_of hf
        refine r_iinc (pc := 15) (loc' := [(1, .int x7), (0, .ref (q 0))]) (v := x7) cx dX4_clear_15 1 rfl ((congrArg (fun z => x1 + z) ic_1).trans ex7.symm) (by decide) rfl ?_
        refine r_goto (pc := 18) (tgt := 2) cx dX4_clear_18 (by decide) ?_
        refine r_loc (loc' := [(0, .ref (q 0)), (1, .int x7)]) [1, 0] rfl ?_
        exact ih2 _ _ hf
  refine r_loc (loc' := [(0, .ref (q 0)), (1, .int (0 : Int32))]) [1, 0] rfl ?_
  refine hL2 _ (fun f3 hf => ?_) _ _ _ hf
  refine r_iconst (pc := 21) cx dX4_clear_21 ic_0 ?_
  refine r_istore_n (pc := 22) (loc' := [(1, .int (0 : Int32)), (0, .ref (q 0))]) cx dX4_clear_22 rfl (by decide) rfl ?_
  have hL23 : ∀ (k23_42 : (Nat → Int32) → Option (T_Pg)), (∀ (f10 : (Nat → Int32)), k23_42 f10 = some o_v → WW p l e rm_Pg_clear s m args below meth c D A 2 0 0 (MQ below (QV D K A (cl_Pg K q o_v)) args s 0 0 A) ([((q 0), ob 3 [.ref (q 1), .ref (q 2), .ref (q 3), .ref (q 4), .ref (q 5), .ref (q 6), .ref (q 7), .ref (q 8), .int (Pg_nameCount v), .int (Pg_size v), .int (Pg_lines v)]), ((q 1), aI K 64 f3), ((q 2), aI K 64 (Pg_first v)), ((q 3), aI K 64 (Pg_second v)), ((q 4), aI K 64 (Pg_third v)), ((q 5), aI K 8 (Pg_rules v)), ((q 6), aI K 32 f10), ((q 7), aI K 140 (Pg_names v)), ((q 8), aI K 140 (Pg_namedPlaces v))]) ([(0, .ref (q 0))]) ([]) 42) → ∀ (n23 : Nat) (x8 : Int32) (f9 : (Nat → Int32)), f_Pg_clear_L23 k23_42 n23 x8 f9 = some o_v → WW p l e rm_Pg_clear s m args below meth c D A 2 0 0 (MQ below (QV D K A (cl_Pg K q o_v)) args s 0 0 A) ([((q 0), ob 3 [.ref (q 1), .ref (q 2), .ref (q 3), .ref (q 4), .ref (q 5), .ref (q 6), .ref (q 7), .ref (q 8), .int (Pg_nameCount v), .int (Pg_size v), .int (Pg_lines v)]), ((q 1), aI K 64 f3), ((q 2), aI K 64 (Pg_first v)), ((q 3), aI K 64 (Pg_second v)), ((q 4), aI K 64 (Pg_third v)), ((q 5), aI K 8 (Pg_rules v)), ((q 6), aI K 32 f9), ((q 7), aI K 140 (Pg_names v)), ((q 8), aI K 140 (Pg_namedPlaces v))]) ([(0, .ref (q 0)), (1, .int x8)]) ([]) 23 := by
    intro k23_42 hk23_42 n23
    induction n23 with
    | zero => intro x8 f9 hf; exact (nomatch (show (none : Option (T_Pg)) = some _ from hf))
    | succ n23 ih23 =>
      intro x8 f9 hf
      rw [f_Pg_clear_L23] at hf
      refine r_iload_n (pc := 23) cx dX4_clear_23 1 rfl ?_
      refine r_bipush (pc := 24) cx dX4_clear_24 bp_32 ?_
      refine r_icmp_ge (pc := 26) (tgt := 42) cx dX4_clear_26 (by decide) (fun h11 => ?_) (fun h11 => ?_)
      · have hf := ifp h11 hf
        refine r_loc (loc' := [(0, .ref (q 0))]) [0] rfl ?_
        exact hk23_42 _ hf
      · have hf := ifn h11 hf
        refine r_aload_n (pc := 29) cx dX4_clear_29 0 rfl ?_
        refine r_get (pc := 30) cx cf_X4 0 5 rfl (by decide) rfl wd_148 dX4_clear_30 ?_
        refine r_iload_n (pc := 33) cx dX4_clear_33 1 rfl ?_
        refine r_iconst (pc := 34) cx dX4_clear_34 ic_0 ?_
        obtain ⟨h12, hf⟩ := chk_of hf
        obtain ⟨f13, ef13, hf⟩ := nm_of hf
        refine r_iast (pc := 35) (ws' := [((q 0), ob 3 [.ref (q 1), .ref (q 2), .ref (q 3), .ref (q 4), .ref (q 5), .ref (q 6), .ref (q 7), .ref (q 8), .int (Pg_nameCount v), .int (Pg_size v), .int (Pg_lines v)]), ((q 1), aI K 64 f3), ((q 2), aI K 64 (Pg_first v)), ((q 3), aI K 64 (Pg_second v)), ((q 4), aI K 64 (Pg_third v)), ((q 5), aI K 8 (Pg_rules v)), ((q 6), aI K 32 f13), ((q 7), aI K 140 (Pg_names v)), ((q 8), aI K 140 (Pg_namedPlaces v))]) cx 6 rfl h12 dX4_clear_35 ef13 rfl ?_
        obtain ⟨x14, ex14, hf⟩ := nm_of hf
        refine r_iinc (pc := 36) (loc' := [(1, .int x14), (0, .ref (q 0))]) (v := x14) cx dX4_clear_36 1 rfl ((congrArg (fun z => x8 + z) ic_1).trans ex14.symm) (by decide) rfl ?_
        refine r_goto (pc := 39) (tgt := 23) cx dX4_clear_39 (by decide) ?_
        refine r_loc (loc' := [(0, .ref (q 0)), (1, .int x14)]) [1, 0] rfl ?_
        exact ih23 _ _ hf
  refine r_loc (loc' := [(0, .ref (q 0)), (1, .int (0 : Int32))]) [1, 0] rfl ?_
  refine hL23 _ (fun f10 hf => ?_) _ _ _ hf
  refine r_aload_n (pc := 42) cx dX4_clear_42 0 rfl ?_
  refine r_get (pc := 43) cx cf_X4 0 4 rfl (by decide) rfl wd_144 dX4_clear_43 ?_
  refine r_iconst (pc := 46) cx dX4_clear_46 ic_0 ?_
  refine r_bipush (pc := 47) cx dX4_clear_47 bp_8 ?_
  obtain ⟨f15, ef15, hf⟩ := nm_of hf
  refine r_iast (pc := 49) (ws' := [((q 0), ob 3 [.ref (q 1), .ref (q 2), .ref (q 3), .ref (q 4), .ref (q 5), .ref (q 6), .ref (q 7), .ref (q 8), .int (Pg_nameCount v), .int (Pg_size v), .int (Pg_lines v)]), ((q 1), aI K 64 f3), ((q 2), aI K 64 (Pg_first v)), ((q 3), aI K 64 (Pg_second v)), ((q 4), aI K 64 (Pg_third v)), ((q 5), aI K 8 f15), ((q 6), aI K 32 f10), ((q 7), aI K 140 (Pg_names v)), ((q 8), aI K 140 (Pg_namedPlaces v))]) cx 5 rfl (by decide) dX4_clear_49 ef15 rfl ?_
  refine r_aload_n (pc := 50) cx dX4_clear_50 0 rfl ?_
  refine r_get (pc := 51) cx cf_X4 0 4 rfl (by decide) rfl wd_144 dX4_clear_51 ?_
  refine r_iconst (pc := 54) cx dX4_clear_54 ic_1 ?_
  refine r_iconst (pc := 55) cx dX4_clear_55 ic_1 ?_
  obtain ⟨f16, ef16, hf⟩ := nm_of hf
  refine r_iast (pc := 56) (ws' := [((q 0), ob 3 [.ref (q 1), .ref (q 2), .ref (q 3), .ref (q 4), .ref (q 5), .ref (q 6), .ref (q 7), .ref (q 8), .int (Pg_nameCount v), .int (Pg_size v), .int (Pg_lines v)]), ((q 1), aI K 64 f3), ((q 2), aI K 64 (Pg_first v)), ((q 3), aI K 64 (Pg_second v)), ((q 4), aI K 64 (Pg_third v)), ((q 5), aI K 8 f16), ((q 6), aI K 32 f10), ((q 7), aI K 140 (Pg_names v)), ((q 8), aI K 140 (Pg_namedPlaces v))]) cx 5 rfl (by decide) dX4_clear_56 ef16 rfl ?_
  refine r_aload_n (pc := 57) cx dX4_clear_57 0 rfl ?_
  refine r_get (pc := 58) cx cf_X4 0 4 rfl (by decide) rfl wd_144 dX4_clear_58 ?_
  refine r_iconst (pc := 61) cx dX4_clear_61 ic_2 ?_
  refine r_iconst (pc := 62) cx dX4_clear_62 ic_4 ?_
  obtain ⟨f17, ef17, hf⟩ := nm_of hf
  refine r_iast (pc := 63) (ws' := [((q 0), ob 3 [.ref (q 1), .ref (q 2), .ref (q 3), .ref (q 4), .ref (q 5), .ref (q 6), .ref (q 7), .ref (q 8), .int (Pg_nameCount v), .int (Pg_size v), .int (Pg_lines v)]), ((q 1), aI K 64 f3), ((q 2), aI K 64 (Pg_first v)), ((q 3), aI K 64 (Pg_second v)), ((q 4), aI K 64 (Pg_third v)), ((q 5), aI K 8 f17), ((q 6), aI K 32 f10), ((q 7), aI K 140 (Pg_names v)), ((q 8), aI K 140 (Pg_namedPlaces v))]) cx 5 rfl (by decide) dX4_clear_63 ef17 rfl ?_
  refine r_aload_n (pc := 64) cx dX4_clear_64 0 rfl ?_
  refine r_get (pc := 65) cx cf_X4 0 4 rfl (by decide) rfl wd_144 dX4_clear_65 ?_
  refine r_iconst (pc := 68) cx dX4_clear_68 ic_3 ?_
  refine r_iconst (pc := 69) cx dX4_clear_69 ic_4 ?_
  obtain ⟨f18, ef18, hf⟩ := nm_of hf
  refine r_iast (pc := 70) (ws' := [((q 0), ob 3 [.ref (q 1), .ref (q 2), .ref (q 3), .ref (q 4), .ref (q 5), .ref (q 6), .ref (q 7), .ref (q 8), .int (Pg_nameCount v), .int (Pg_size v), .int (Pg_lines v)]), ((q 1), aI K 64 f3), ((q 2), aI K 64 (Pg_first v)), ((q 3), aI K 64 (Pg_second v)), ((q 4), aI K 64 (Pg_third v)), ((q 5), aI K 8 f18), ((q 6), aI K 32 f10), ((q 7), aI K 140 (Pg_names v)), ((q 8), aI K 140 (Pg_namedPlaces v))]) cx 5 rfl (by decide) dX4_clear_70 ef18 rfl ?_
  refine r_aload_n (pc := 71) cx dX4_clear_71 0 rfl ?_
  refine r_get (pc := 72) cx cf_X4 0 4 rfl (by decide) rfl wd_144 dX4_clear_72 ?_
  refine r_iconst (pc := 75) cx dX4_clear_75 ic_4 ?_
  refine r_iconst (pc := 76) cx dX4_clear_76 ic_4 ?_
  obtain ⟨f19, ef19, hf⟩ := nm_of hf
  refine r_iast (pc := 77) (ws' := [((q 0), ob 3 [.ref (q 1), .ref (q 2), .ref (q 3), .ref (q 4), .ref (q 5), .ref (q 6), .ref (q 7), .ref (q 8), .int (Pg_nameCount v), .int (Pg_size v), .int (Pg_lines v)]), ((q 1), aI K 64 f3), ((q 2), aI K 64 (Pg_first v)), ((q 3), aI K 64 (Pg_second v)), ((q 4), aI K 64 (Pg_third v)), ((q 5), aI K 8 f19), ((q 6), aI K 32 f10), ((q 7), aI K 140 (Pg_names v)), ((q 8), aI K 140 (Pg_namedPlaces v))]) cx 5 rfl (by decide) dX4_clear_77 ef19 rfl ?_
  refine r_aload_n (pc := 78) cx dX4_clear_78 0 rfl ?_
  refine r_get (pc := 79) cx cf_X4 0 4 rfl (by decide) rfl wd_144 dX4_clear_79 ?_
  refine r_iconst (pc := 82) cx dX4_clear_82 ic_5 ?_
  refine r_iconst (pc := 83) cx dX4_clear_83 ic_4 ?_
  obtain ⟨f20, ef20, hf⟩ := nm_of hf
  refine r_iast (pc := 84) (ws' := [((q 0), ob 3 [.ref (q 1), .ref (q 2), .ref (q 3), .ref (q 4), .ref (q 5), .ref (q 6), .ref (q 7), .ref (q 8), .int (Pg_nameCount v), .int (Pg_size v), .int (Pg_lines v)]), ((q 1), aI K 64 f3), ((q 2), aI K 64 (Pg_first v)), ((q 3), aI K 64 (Pg_second v)), ((q 4), aI K 64 (Pg_third v)), ((q 5), aI K 8 f20), ((q 6), aI K 32 f10), ((q 7), aI K 140 (Pg_names v)), ((q 8), aI K 140 (Pg_namedPlaces v))]) cx 5 rfl (by decide) dX4_clear_84 ef20 rfl ?_
  refine r_aload_n (pc := 85) cx dX4_clear_85 0 rfl ?_
  refine r_get (pc := 86) cx cf_X4 0 4 rfl (by decide) rfl wd_144 dX4_clear_86 ?_
  refine r_bipush (pc := 89) cx dX4_clear_89 bp_6 ?_
  refine r_iconst (pc := 91) cx dX4_clear_91 ic_3 ?_
  obtain ⟨f21, ef21, hf⟩ := nm_of hf
  refine r_iast (pc := 92) (ws' := [((q 0), ob 3 [.ref (q 1), .ref (q 2), .ref (q 3), .ref (q 4), .ref (q 5), .ref (q 6), .ref (q 7), .ref (q 8), .int (Pg_nameCount v), .int (Pg_size v), .int (Pg_lines v)]), ((q 1), aI K 64 f3), ((q 2), aI K 64 (Pg_first v)), ((q 3), aI K 64 (Pg_second v)), ((q 4), aI K 64 (Pg_third v)), ((q 5), aI K 8 f21), ((q 6), aI K 32 f10), ((q 7), aI K 140 (Pg_names v)), ((q 8), aI K 140 (Pg_namedPlaces v))]) cx 5 rfl (by decide) dX4_clear_92 ef21 rfl ?_
  refine r_aload_n (pc := 93) cx dX4_clear_93 0 rfl ?_
  refine r_get (pc := 94) cx cf_X4 0 4 rfl (by decide) rfl wd_144 dX4_clear_94 ?_
  refine r_bipush (pc := 97) cx dX4_clear_97 bp_7 ?_
  refine r_iconst (pc := 99) cx dX4_clear_99 ic_0 ?_
  obtain ⟨f22, ef22, hf⟩ := nm_of hf
  refine r_iast (pc := 100) (ws' := [((q 0), ob 3 [.ref (q 1), .ref (q 2), .ref (q 3), .ref (q 4), .ref (q 5), .ref (q 6), .ref (q 7), .ref (q 8), .int (Pg_nameCount v), .int (Pg_size v), .int (Pg_lines v)]), ((q 1), aI K 64 f3), ((q 2), aI K 64 (Pg_first v)), ((q 3), aI K 64 (Pg_second v)), ((q 4), aI K 64 (Pg_third v)), ((q 5), aI K 8 f22), ((q 6), aI K 32 f10), ((q 7), aI K 140 (Pg_names v)), ((q 8), aI K 140 (Pg_namedPlaces v))]) cx 5 rfl (by decide) dX4_clear_100 ef22 rfl ?_
  refine r_aload_n (pc := 101) cx dX4_clear_101 0 rfl ?_
  refine r_iconst (pc := 102) cx dX4_clear_102 ic_0 ?_
  refine r_putI (pc := 103) (ws' := [((q 0), ob 3 [.ref (q 1), .ref (q 2), .ref (q 3), .ref (q 4), .ref (q 5), .ref (q 6), .ref (q 7), .ref (q 8), .int (0 : Int32), .int (Pg_size v), .int (Pg_lines v)]), ((q 1), aI K 64 f3), ((q 2), aI K 64 (Pg_first v)), ((q 3), aI K 64 (Pg_second v)), ((q 4), aI K 64 (Pg_third v)), ((q 5), aI K 8 f22), ((q 6), aI K 32 f10), ((q 7), aI K 140 (Pg_names v)), ((q 8), aI K 140 (Pg_namedPlaces v))]) cx cf_X4 0 8 rfl (by decide) (Nat.le_of_ble_eq_true rfl) rfl pfd_I wd_154 dX4_clear_103 rfl ?_
  refine r_aload_n (pc := 106) cx dX4_clear_106 0 rfl ?_
  refine r_iconst (pc := 107) cx dX4_clear_107 ic_0 ?_
  refine r_putI (pc := 108) (ws' := [((q 0), ob 3 [.ref (q 1), .ref (q 2), .ref (q 3), .ref (q 4), .ref (q 5), .ref (q 6), .ref (q 7), .ref (q 8), .int (0 : Int32), .int (0 : Int32), .int (Pg_lines v)]), ((q 1), aI K 64 f3), ((q 2), aI K 64 (Pg_first v)), ((q 3), aI K 64 (Pg_second v)), ((q 4), aI K 64 (Pg_third v)), ((q 5), aI K 8 f22), ((q 6), aI K 32 f10), ((q 7), aI K 140 (Pg_names v)), ((q 8), aI K 140 (Pg_namedPlaces v))]) cx cf_X4 0 9 rfl (by decide) (Nat.le_of_ble_eq_true rfl) rfl pfd_I wd_155 dX4_clear_108 rfl ?_
  refine r_aload_n (pc := 111) cx dX4_clear_111 0 rfl ?_
  refine r_iconst (pc := 112) cx dX4_clear_112 ic_0 ?_
  refine r_putI (pc := 113) (ws' := [((q 0), ob 3 [.ref (q 1), .ref (q 2), .ref (q 3), .ref (q 4), .ref (q 5), .ref (q 6), .ref (q 7), .ref (q 8), .int (0 : Int32), .int (0 : Int32), .int (0 : Int32)]), ((q 1), aI K 64 f3), ((q 2), aI K 64 (Pg_first v)), ((q 3), aI K 64 (Pg_second v)), ((q 4), aI K 64 (Pg_third v)), ((q 5), aI K 8 f22), ((q 6), aI K 32 f10), ((q 7), aI K 140 (Pg_names v)), ((q 8), aI K 140 (Pg_namedPlaces v))]) cx cf_X4 0 10 rfl (by decide) (Nat.le_of_ble_eq_true rfl) rfl pfd_I wd_158 dX4_clear_113 rfl ?_
  cases hf
  exact r_vret (pc := 116) cx rfl dX4_clear_116
theorem yv_X4_clear : YV yX4_clear cX4_clear 2 (none) 0 := ⟨⟨by decide +kernel, by decide +kernel, by decide +kernel⟩, wd_131, wd_89, wd_129, wd_130⟩
def f_Pg_placeOf_L2 (v : T_Pg) (a1 : Int32) (k2_27 : Int32 → Option (Int32)) (k2_40 : Option (Int32)) : Nat → Int32 → Option (Int32)
  | 0, _ => none
  | n2 + 1, x1 =>
    (if (Pg_nameCount v) ≤ x1 then (k2_40) else (if (140 : Int32) ≤ x1 then (k2_40) else (if ix x1 140 then (if ((Pg_names v) x1.toNatClampNeg) = a1 then (k2_27 x1) else (nm (x1 + (1 : Int32)) fun (x7 : Int32) => (f_Pg_placeOf_L2 v a1 k2_27 k2_40 n2 x7))) else none)))
def f_Pg_placeOf (v : T_Pg) (a1 : Int32) : Option (Int32) :=
  (f_Pg_placeOf_L2 v a1 (fun (x2 : Int32) => (if ix x2 140 then (some ((Pg_namedPlaces v) x2.toNatClampNeg)) else none)) (some (-1 : Int32)) LF (0 : Int32))
abbrev rm_Pg_placeOf : Room := { frames := 0, cells := 0, slots := 0, locals := 0 }
set_option maxRecDepth 100000 in
set_option maxHeartbeats 4000000 in
theorem m_Pg_placeOf (l : Launch) (D : va_G) (K : Nat → ClassId) (q : Nat → Nat) (v : T_Pg) (a1 : Int32) {r_ : Int32} (hf : f_Pg_placeOf v a1 = some r_) : MI l yX4_placeOf cX4_placeOf 3 (some .int) rm_Pg_placeOf D K [.ref (q 0), .int a1] (cl_Pg K q v) r_ (cl_Pg K q v) := by
  refine MI_of (loc0 := [(0, .ref (q 0)), (1, .int a1)]) (by decide +kernel) rfl (Nat.le_of_ble_eq_true rfl) ?_
  intro p e s m args below meth c A cx
  unfold f_Pg_placeOf at hf
  refine r_ws (ws' := [((q 0), ob 3 [.ref (q 1), .ref (q 2), .ref (q 3), .ref (q 4), .ref (q 5), .ref (q 6), .ref (q 7), .ref (q 8), .int (Pg_nameCount v), .int (Pg_size v), .int (Pg_lines v)]), ((q 1), aI K 64 (Pg_code v)), ((q 2), aI K 64 (Pg_first v)), ((q 3), aI K 64 (Pg_second v)), ((q 4), aI K 64 (Pg_third v)), ((q 5), aI K 8 (Pg_rules v)), ((q 6), aI K 32 (Pg_data v)), ((q 7), aI K 140 (Pg_names v)), ((q 8), aI K 140 (Pg_namedPlaces v))]) rfl ?_
  refine r_iconst (pc := 0) cx dX4_placeOf_0 ic_0 ?_
  refine r_istore_n (pc := 1) (loc' := [(2, .int (0 : Int32)), (0, .ref (q 0)), (1, .int a1)]) cx dX4_placeOf_1 rfl (by decide) rfl ?_
  have hL2 : ∀ (k2_27 : Int32 → Option (Int32)) (k2_40 : Option (Int32)), (∀ (x2 : Int32), k2_27 x2 = some r_ → WW p l e rm_Pg_placeOf s m args below meth c D A 3 0 0 (MQ below (QI D K A r_ (cl_Pg K q v)) args s 0 0 A) ([((q 0), ob 3 [.ref (q 1), .ref (q 2), .ref (q 3), .ref (q 4), .ref (q 5), .ref (q 6), .ref (q 7), .ref (q 8), .int (Pg_nameCount v), .int (Pg_size v), .int (Pg_lines v)]), ((q 1), aI K 64 (Pg_code v)), ((q 2), aI K 64 (Pg_first v)), ((q 3), aI K 64 (Pg_second v)), ((q 4), aI K 64 (Pg_third v)), ((q 5), aI K 8 (Pg_rules v)), ((q 6), aI K 32 (Pg_data v)), ((q 7), aI K 140 (Pg_names v)), ((q 8), aI K 140 (Pg_namedPlaces v))]) ([(0, .ref (q 0)), (2, .int x2)]) ([]) 27) → (k2_40 = some r_ → WW p l e rm_Pg_placeOf s m args below meth c D A 3 0 0 (MQ below (QI D K A r_ (cl_Pg K q v)) args s 0 0 A) ([((q 0), ob 3 [.ref (q 1), .ref (q 2), .ref (q 3), .ref (q 4), .ref (q 5), .ref (q 6), .ref (q 7), .ref (q 8), .int (Pg_nameCount v), .int (Pg_size v), .int (Pg_lines v)]), ((q 1), aI K 64 (Pg_code v)), ((q 2), aI K 64 (Pg_first v)), ((q 3), aI K 64 (Pg_second v)), ((q 4), aI K 64 (Pg_third v)), ((q 5), aI K 8 (Pg_rules v)), ((q 6), aI K 32 (Pg_data v)), ((q 7), aI K 140 (Pg_names v)), ((q 8), aI K 140 (Pg_namedPlaces v))]) ([]) ([]) 40) → ∀ (n2 : Nat) (x1 : Int32), f_Pg_placeOf_L2 v a1 k2_27 k2_40 n2 x1 = some r_ → WW p l e rm_Pg_placeOf s m args below meth c D A 3 0 0 (MQ below (QI D K A r_ (cl_Pg K q v)) args s 0 0 A) ([((q 0), ob 3 [.ref (q 1), .ref (q 2), .ref (q 3), .ref (q 4), .ref (q 5), .ref (q 6), .ref (q 7), .ref (q 8), .int (Pg_nameCount v), .int (Pg_size v), .int (Pg_lines v)]), ((q 1), aI K 64 (Pg_code v)), ((q 2), aI K 64 (Pg_first v)), ((q 3), aI K 64 (Pg_second v)), ((q 4), aI K 64 (Pg_third v)), ((q 5), aI K 8 (Pg_rules v)), ((q 6), aI K 32 (Pg_data v)), ((q 7), aI K 140 (Pg_names v)), ((q 8), aI K 140 (Pg_namedPlaces v))]) ([(0, .ref (q 0)), (1, .int a1), (2, .int x1)]) ([]) 2 := by
    intro k2_27 k2_40 hk2_27 hk2_40 n2
    induction n2 with
    | zero => intro x1 hf; exact (nomatch (show (none : Option (Int32)) = some _ from hf))
    | succ n2 ih2 =>
      intro x1 hf
      rw [f_Pg_placeOf_L2] at hf
      refine r_iload_n (pc := 2) cx dX4_placeOf_2 2 rfl ?_
      refine r_aload_n (pc := 3) cx dX4_placeOf_3 0 rfl ?_
      refine r_get (pc := 4) cx cf_X4 0 8 rfl (by decide) rfl wd_154 dX4_placeOf_4 ?_
      refine r_icmp_ge (pc := 7) (tgt := 40) cx dX4_placeOf_7 (by decide) (fun h3 => ?_) (fun h3 => ?_)
      · have hf := ifp h3 hf
        refine r_loc (loc' := []) [] rfl ?_
        exact hk2_40 hf
      · have hf := ifn h3 hf
        refine r_iload_n (pc := 10) cx dX4_placeOf_10 2 rfl ?_
        refine r_sipush (pc := 11) cx dX4_placeOf_11 sp_140 ?_
        refine r_icmp_ge (pc := 14) (tgt := 40) cx dX4_placeOf_14 (by decide) (fun h4 => ?_) (fun h4 => ?_)
        · have hf := ifp h4 hf
          refine r_loc (loc' := []) [] rfl ?_
          exact hk2_40 hf
        · have hf := ifn h4 hf
          refine r_aload_n (pc := 17) cx dX4_placeOf_17 0 rfl ?_
          refine r_get (pc := 18) cx cf_X4 0 6 rfl (by decide) rfl wd_152 dX4_placeOf_18 ?_
          refine r_iload_n (pc := 21) cx dX4_placeOf_21 2 rfl ?_
          obtain ⟨h5, hf⟩ := chk_of hf
          refine r_iald (pc := 22) cx 7 rfl h5 dX4_placeOf_22 ?_
          refine r_iload_n (pc := 23) cx dX4_placeOf_23 1 rfl ?_
          refine r_icmp_ne (pc := 24) (tgt := 34) cx dX4_placeOf_24 (by decide) (fun h6 => ?_) (fun h6 => ?_)
          · have hf := ifn h6 hf
            obtain ⟨x7, ex7, hf⟩ := nm_of hf
            refine r_iinc (pc := 34) (loc' := [(2, .int x7), (0, .ref (q 0)), (1, .int a1)]) (v := x7) cx dX4_placeOf_34 2 rfl ((congrArg (fun z => x1 + z) ic_1).trans ex7.symm) (by decide) rfl ?_
            refine r_goto (pc := 37) (tgt := 2) cx dX4_placeOf_37 (by decide) ?_
            refine r_loc (loc' := [(0, .ref (q 0)), (1, .int a1), (2, .int x7)]) [1, 2, 0] rfl ?_
            exact ih2 _ hf
          · have hf := ifp h6 hf
            refine r_loc (loc' := [(0, .ref (q 0)), (2, .int x1)]) [0, 2] rfl ?_
            exact hk2_27 _ hf
  refine r_loc (loc' := [(0, .ref (q 0)), (1, .int a1), (2, .int (0 : Int32))]) [1, 2, 0] rfl ?_
  refine hL2 _ _ (fun x2 hf => ?_) (fun hf => ?_) _ _ hf
  · refine r_aload_n (pc := 27) cx dX4_placeOf_27 0 rfl ?_
    refine r_get (pc := 28) cx cf_X4 0 7 rfl (by decide) rfl wd_153 dX4_placeOf_28 ?_
    refine r_iload_n (pc := 31) cx dX4_placeOf_31 1 rfl ?_
    obtain ⟨h8, hf⟩ := chk_of hf
    refine r_iald (pc := 32) cx 8 rfl h8 dX4_placeOf_32 ?_
    cases hf
    exact r_iret (pc := 33) cx rfl rfl dX4_placeOf_33
  · refine r_iconst (pc := 40) cx dX4_placeOf_40 ic_m1 ?_
    cases hf
    exact r_iret (pc := 41) cx rfl rfl dX4_placeOf_41
theorem yv_X4_placeOf : YV yX4_placeOf cX4_placeOf 3 (some .int) 1 := ⟨⟨by decide +kernel, by decide +kernel, by decide +kernel⟩, wd_668, wd_89, wd_666, wd_667⟩
def f_Pg_nameNext (v : T_Pg) (a1 : Int32) : Option (T_Pg) :=
  (if (Pg_nameCount v) < (0 : Int32) then (some v) else (if (140 : Int32) ≤ (Pg_nameCount v) then (some v) else (if ix (Pg_nameCount v) 140 then (nm (upd (Pg_names v) ((Pg_nameCount v)).toNatClampNeg a1) fun (f4 : Nat → Int32) => (nm (Pg_size v) fun (x5 : Int32) => (if ix (Pg_nameCount v) 140 then (nm (upd (Pg_namedPlaces v) ((Pg_nameCount v)).toNatClampNeg x5) fun (f7 : Nat → Int32) => (nm ((Pg_nameCount v) + (1 : Int32)) fun (x8 : Int32) => (some ((Pg_code v), (Pg_first v), (Pg_second v), (Pg_third v), (Pg_rules v), (Pg_data v), f4, f7, x8, (Pg_size v), (Pg_lines v))))) else none))) else none)))
abbrev rm_Pg_nameNext : Room := { frames := 0, cells := 0, slots := 0, locals := 0 }
set_option maxRecDepth 100000 in
set_option maxHeartbeats 4000000 in
theorem m_Pg_nameNext (l : Launch) (D : va_G) (K : Nat → ClassId) (q : Nat → Nat) (v : T_Pg) (a1 : Int32) {o_v : T_Pg} (hf : f_Pg_nameNext v a1 = some o_v) : MV l yX4_nameNext cX4_nameNext 2 (none) rm_Pg_nameNext D K [.ref (q 0), .int a1] (cl_Pg K q v) (cl_Pg K q o_v) := by
  refine MV_of (loc0 := [(0, .ref (q 0)), (1, .int a1)]) (by decide +kernel) rfl (Nat.le_of_ble_eq_true rfl) ?_
  intro p e s m args below meth c A cx
  unfold f_Pg_nameNext at hf
  refine r_ws (ws' := [((q 0), ob 3 [.ref (q 1), .ref (q 2), .ref (q 3), .ref (q 4), .ref (q 5), .ref (q 6), .ref (q 7), .ref (q 8), .int (Pg_nameCount v), .int (Pg_size v), .int (Pg_lines v)]), ((q 1), aI K 64 (Pg_code v)), ((q 2), aI K 64 (Pg_first v)), ((q 3), aI K 64 (Pg_second v)), ((q 4), aI K 64 (Pg_third v)), ((q 5), aI K 8 (Pg_rules v)), ((q 6), aI K 32 (Pg_data v)), ((q 7), aI K 140 (Pg_names v)), ((q 8), aI K 140 (Pg_namedPlaces v))]) rfl ?_
  refine r_aload_n (pc := 0) cx dX4_nameNext_0 0 rfl ?_
  refine r_get (pc := 1) cx cf_X4 0 8 rfl (by decide) rfl wd_154 dX4_nameNext_1 ?_
  refine r_if_lt (pc := 4) (tgt := 50) cx dX4_nameNext_4 (by decide) (fun h1 => ?_) (fun h1 => ?_)
  · have hf := ifp h1 hf
    cases hf
    exact r_vret (pc := 50) cx rfl dX4_nameNext_50
  · have hf := ifn h1 hf
    refine r_aload_n (pc := 7) cx dX4_nameNext_7 0 rfl ?_
    refine r_get (pc := 8) cx cf_X4 0 8 rfl (by decide) rfl wd_154 dX4_nameNext_8 ?_
    refine r_sipush (pc := 11) cx dX4_nameNext_11 sp_140 ?_
    refine r_icmp_ge (pc := 14) (tgt := 50) cx dX4_nameNext_14 (by decide) (fun h2 => ?_) (fun h2 => ?_)
    · have hf := ifp h2 hf
      cases hf
      exact r_vret (pc := 50) cx rfl dX4_nameNext_50
    · have hf := ifn h2 hf
      refine r_aload_n (pc := 17) cx dX4_nameNext_17 0 rfl ?_
      refine r_get (pc := 18) cx cf_X4 0 6 rfl (by decide) rfl wd_152 dX4_nameNext_18 ?_
      refine r_aload_n (pc := 21) cx dX4_nameNext_21 0 rfl ?_
      refine r_get (pc := 22) cx cf_X4 0 8 rfl (by decide) rfl wd_154 dX4_nameNext_22 ?_
      refine r_iload_n (pc := 25) cx dX4_nameNext_25 1 rfl ?_
      obtain ⟨h3, hf⟩ := chk_of hf
      obtain ⟨f4, ef4, hf⟩ := nm_of hf
      refine r_iast (pc := 26) (ws' := [((q 0), ob 3 [.ref (q 1), .ref (q 2), .ref (q 3), .ref (q 4), .ref (q 5), .ref (q 6), .ref (q 7), .ref (q 8), .int (Pg_nameCount v), .int (Pg_size v), .int (Pg_lines v)]), ((q 1), aI K 64 (Pg_code v)), ((q 2), aI K 64 (Pg_first v)), ((q 3), aI K 64 (Pg_second v)), ((q 4), aI K 64 (Pg_third v)), ((q 5), aI K 8 (Pg_rules v)), ((q 6), aI K 32 (Pg_data v)), ((q 7), aI K 140 f4), ((q 8), aI K 140 (Pg_namedPlaces v))]) cx 7 rfl h3 dX4_nameNext_26 ef4 rfl ?_
      refine r_aload_n (pc := 27) cx dX4_nameNext_27 0 rfl ?_
      refine r_get (pc := 28) cx cf_X4 0 7 rfl (by decide) rfl wd_153 dX4_nameNext_28 ?_
      refine r_aload_n (pc := 31) cx dX4_nameNext_31 0 rfl ?_
      refine r_get (pc := 32) cx cf_X4 0 8 rfl (by decide) rfl wd_154 dX4_nameNext_32 ?_
      refine r_aload_n (pc := 35) cx dX4_nameNext_35 0 rfl ?_
      refine r_get (pc := 36) cx cf_X4 0 9 rfl (by decide) rfl wd_155 dX4_nameNext_36 ?_
      obtain ⟨x5, ex5, hf⟩ := nm_of hf
      refine r_nm ex5 ?_
      obtain ⟨h6, hf⟩ := chk_of hf
      obtain ⟨f7, ef7, hf⟩ := nm_of hf
      refine r_iast (pc := 39) (ws' := [((q 0), ob 3 [.ref (q 1), .ref (q 2), .ref (q 3), .ref (q 4), .ref (q 5), .ref (q 6), .ref (q 7), .ref (q 8), .int (Pg_nameCount v), .int (Pg_size v), .int (Pg_lines v)]), ((q 1), aI K 64 (Pg_code v)), ((q 2), aI K 64 (Pg_first v)), ((q 3), aI K 64 (Pg_second v)), ((q 4), aI K 64 (Pg_third v)), ((q 5), aI K 8 (Pg_rules v)), ((q 6), aI K 32 (Pg_data v)), ((q 7), aI K 140 f4), ((q 8), aI K 140 f7)]) cx 8 rfl h6 dX4_nameNext_39 ef7 rfl ?_
      refine r_aload_n (pc := 40) cx dX4_nameNext_40 0 rfl ?_
      refine r_dup (pc := 41) cx dX4_nameNext_41 rfl ?_
      refine r_get (pc := 42) cx cf_X4 0 8 rfl (by decide) rfl wd_154 dX4_nameNext_42 ?_
      refine r_iconst (pc := 45) cx dX4_nameNext_45 ic_1 ?_
      refine r_iadd (pc := 46) cx dX4_nameNext_46 ?_
      obtain ⟨x8, ex8, hf⟩ := nm_of hf
      refine r_nm ex8 ?_
      refine r_putI (pc := 47) (ws' := [((q 0), ob 3 [.ref (q 1), .ref (q 2), .ref (q 3), .ref (q 4), .ref (q 5), .ref (q 6), .ref (q 7), .ref (q 8), .int x8, .int (Pg_size v), .int (Pg_lines v)]), ((q 1), aI K 64 (Pg_code v)), ((q 2), aI K 64 (Pg_first v)), ((q 3), aI K 64 (Pg_second v)), ((q 4), aI K 64 (Pg_third v)), ((q 5), aI K 8 (Pg_rules v)), ((q 6), aI K 32 (Pg_data v)), ((q 7), aI K 140 f4), ((q 8), aI K 140 f7)]) cx cf_X4 0 8 rfl (by decide) (Nat.le_of_ble_eq_true rfl) rfl pfd_I wd_154 dX4_nameNext_47 rfl ?_
      cases hf
      exact r_vret (pc := 50) cx rfl dX4_nameNext_50
theorem yv_X4_nameNext : YV yX4_nameNext cX4_nameNext 2 (none) 1 := ⟨⟨by decide +kernel, by decide +kernel, by decide +kernel⟩, wd_688, wd_89, wd_686, wd_687⟩
def f_Pg_append (v : T_Pg) (a1 : Int32) (a2 : Int32) (a3 : Int32) (a4 : Int32) : Option (T_Pg) :=
  (nm ((Pg_size v) &&& (63 : Int32)) fun (x1 : Int32) => (nm (upd (Pg_code v) x1.toNatClampNeg a1) fun (f2 : Nat → Int32) => (nm (upd (Pg_first v) x1.toNatClampNeg a2) fun (f3 : Nat → Int32) => (nm (upd (Pg_second v) x1.toNatClampNeg a3) fun (f4 : Nat → Int32) => (nm (upd (Pg_third v) x1.toNatClampNeg a4) fun (f5 : Nat → Int32) => (nm ((Pg_size v) + (1 : Int32)) fun (x6 : Int32) => (some (f2, f3, f4, f5, (Pg_rules v), (Pg_data v), (Pg_names v), (Pg_namedPlaces v), (Pg_nameCount v), x6, (Pg_lines v)))))))))
abbrev rm_Pg_append : Room := { frames := 0, cells := 0, slots := 0, locals := 0 }
set_option maxRecDepth 100000 in
set_option maxHeartbeats 4000000 in
theorem m_Pg_append (l : Launch) (D : va_G) (K : Nat → ClassId) (q : Nat → Nat) (v : T_Pg) (a1 : Int32) (a2 : Int32) (a3 : Int32) (a4 : Int32) {o_v : T_Pg} (hf : f_Pg_append v a1 a2 a3 a4 = some o_v) : MV l yX4_append cX4_append 6 (none) rm_Pg_append D K [.ref (q 0), .int a1, .int a2, .int a3, .int a4] (cl_Pg K q v) (cl_Pg K q o_v) := by
  refine MV_of (loc0 := [(0, .ref (q 0)), (1, .int a1), (2, .int a2), (3, .int a3), (4, .int a4)]) (by decide +kernel) rfl (Nat.le_of_ble_eq_true rfl) ?_
  intro p e s m args below meth c A cx
  unfold f_Pg_append at hf
  refine r_ws (ws' := [((q 0), ob 3 [.ref (q 1), .ref (q 2), .ref (q 3), .ref (q 4), .ref (q 5), .ref (q 6), .ref (q 7), .ref (q 8), .int (Pg_nameCount v), .int (Pg_size v), .int (Pg_lines v)]), ((q 1), aI K 64 (Pg_code v)), ((q 2), aI K 64 (Pg_first v)), ((q 3), aI K 64 (Pg_second v)), ((q 4), aI K 64 (Pg_third v)), ((q 5), aI K 8 (Pg_rules v)), ((q 6), aI K 32 (Pg_data v)), ((q 7), aI K 140 (Pg_names v)), ((q 8), aI K 140 (Pg_namedPlaces v))]) rfl ?_
  refine r_aload_n (pc := 0) cx dX4_append_0 0 rfl ?_
  refine r_get (pc := 1) cx cf_X4 0 9 rfl (by decide) rfl wd_155 dX4_append_1 ?_
  refine r_bipush (pc := 4) cx dX4_append_4 bp_63 ?_
  refine r_iand (pc := 6) cx dX4_append_6 ?_
  obtain ⟨x1, ex1, hf⟩ := nm_of hf
  refine r_nm ex1 ?_
  refine r_istore (pc := 7) (loc' := [(5, .int x1), (0, .ref (q 0)), (1, .int a1), (2, .int a2), (3, .int a3), (4, .int a4)]) cx dX4_append_7 (by decide) rfl ?_
  refine r_aload_n (pc := 9) cx dX4_append_9 1 rfl ?_
  refine r_get (pc := 10) cx cf_X4 0 0 rfl (by decide) rfl wd_132 dX4_append_10 ?_
  refine r_iload (pc := 13) cx dX4_append_13 0 rfl ?_
  refine r_iload_n (pc := 15) cx dX4_append_15 2 rfl ?_
  obtain ⟨f2, ef2, hf⟩ := nm_of hf
  refine r_iast (pc := 16) (ws' := [((q 0), ob 3 [.ref (q 1), .ref (q 2), .ref (q 3), .ref (q 4), .ref (q 5), .ref (q 6), .ref (q 7), .ref (q 8), .int (Pg_nameCount v), .int (Pg_size v), .int (Pg_lines v)]), ((q 1), aI K 64 f2), ((q 2), aI K 64 (Pg_first v)), ((q 3), aI K 64 (Pg_second v)), ((q 4), aI K 64 (Pg_third v)), ((q 5), aI K 8 (Pg_rules v)), ((q 6), aI K 32 (Pg_data v)), ((q 7), aI K 140 (Pg_names v)), ((q 8), aI K 140 (Pg_namedPlaces v))]) cx 1 rfl (by rw [ex1]; exact ix_and63 _) dX4_append_16 ef2 rfl ?_
  refine r_aload_n (pc := 17) cx dX4_append_17 1 rfl ?_
  refine r_get (pc := 18) cx cf_X4 0 1 rfl (by decide) rfl wd_137 dX4_append_18 ?_
  refine r_iload (pc := 21) cx dX4_append_21 0 rfl ?_
  refine r_iload_n (pc := 23) cx dX4_append_23 3 rfl ?_
  obtain ⟨f3, ef3, hf⟩ := nm_of hf
  refine r_iast (pc := 24) (ws' := [((q 0), ob 3 [.ref (q 1), .ref (q 2), .ref (q 3), .ref (q 4), .ref (q 5), .ref (q 6), .ref (q 7), .ref (q 8), .int (Pg_nameCount v), .int (Pg_size v), .int (Pg_lines v)]), ((q 1), aI K 64 f2), ((q 2), aI K 64 f3), ((q 3), aI K 64 (Pg_second v)), ((q 4), aI K 64 (Pg_third v)), ((q 5), aI K 8 (Pg_rules v)), ((q 6), aI K 32 (Pg_data v)), ((q 7), aI K 140 (Pg_names v)), ((q 8), aI K 140 (Pg_namedPlaces v))]) cx 2 rfl (by rw [ex1]; exact ix_and63 _) dX4_append_24 ef3 rfl ?_
  refine r_aload_n (pc := 25) cx dX4_append_25 1 rfl ?_
  refine r_get (pc := 26) cx cf_X4 0 2 rfl (by decide) rfl wd_139 dX4_append_26 ?_
  refine r_iload (pc := 29) cx dX4_append_29 0 rfl ?_
  refine r_iload_n (pc := 31) cx dX4_append_31 4 rfl ?_
  obtain ⟨f4, ef4, hf⟩ := nm_of hf
  refine r_iast (pc := 32) (ws' := [((q 0), ob 3 [.ref (q 1), .ref (q 2), .ref (q 3), .ref (q 4), .ref (q 5), .ref (q 6), .ref (q 7), .ref (q 8), .int (Pg_nameCount v), .int (Pg_size v), .int (Pg_lines v)]), ((q 1), aI K 64 f2), ((q 2), aI K 64 f3), ((q 3), aI K 64 f4), ((q 4), aI K 64 (Pg_third v)), ((q 5), aI K 8 (Pg_rules v)), ((q 6), aI K 32 (Pg_data v)), ((q 7), aI K 140 (Pg_names v)), ((q 8), aI K 140 (Pg_namedPlaces v))]) cx 3 rfl (by rw [ex1]; exact ix_and63 _) dX4_append_32 ef4 rfl ?_
  refine r_aload_n (pc := 33) cx dX4_append_33 1 rfl ?_
  refine r_get (pc := 34) cx cf_X4 0 3 rfl (by decide) rfl wd_141 dX4_append_34 ?_
  refine r_iload (pc := 37) cx dX4_append_37 0 rfl ?_
  refine r_iload (pc := 39) cx dX4_append_39 5 rfl ?_
  obtain ⟨f5, ef5, hf⟩ := nm_of hf
  refine r_iast (pc := 41) (ws' := [((q 0), ob 3 [.ref (q 1), .ref (q 2), .ref (q 3), .ref (q 4), .ref (q 5), .ref (q 6), .ref (q 7), .ref (q 8), .int (Pg_nameCount v), .int (Pg_size v), .int (Pg_lines v)]), ((q 1), aI K 64 f2), ((q 2), aI K 64 f3), ((q 3), aI K 64 f4), ((q 4), aI K 64 f5), ((q 5), aI K 8 (Pg_rules v)), ((q 6), aI K 32 (Pg_data v)), ((q 7), aI K 140 (Pg_names v)), ((q 8), aI K 140 (Pg_namedPlaces v))]) cx 4 rfl (by rw [ex1]; exact ix_and63 _) dX4_append_41 ef5 rfl ?_
  refine r_aload_n (pc := 42) cx dX4_append_42 1 rfl ?_
  refine r_dup (pc := 43) cx dX4_append_43 rfl ?_
  refine r_get (pc := 44) cx cf_X4 0 9 rfl (by decide) rfl wd_155 dX4_append_44 ?_
  refine r_iconst (pc := 47) cx dX4_append_47 ic_1 ?_
  refine r_iadd (pc := 48) cx dX4_append_48 ?_
  obtain ⟨x6, ex6, hf⟩ := nm_of hf
  refine r_nm ex6 ?_
  refine r_putI (pc := 49) (ws' := [((q 0), ob 3 [.ref (q 1), .ref (q 2), .ref (q 3), .ref (q 4), .ref (q 5), .ref (q 6), .ref (q 7), .ref (q 8), .int (Pg_nameCount v), .int x6, .int (Pg_lines v)]), ((q 1), aI K 64 f2), ((q 2), aI K 64 f3), ((q 3), aI K 64 f4), ((q 4), aI K 64 f5), ((q 5), aI K 8 (Pg_rules v)), ((q 6), aI K 32 (Pg_data v)), ((q 7), aI K 140 (Pg_names v)), ((q 8), aI K 140 (Pg_namedPlaces v))]) cx cf_X4 0 9 rfl (by decide) (Nat.le_of_ble_eq_true rfl) rfl pfd_I wd_155 dX4_append_49 rfl ?_
  cases hf
  exact r_vret (pc := 52) cx rfl dX4_append_52
theorem yv_X4_append : YV yX4_append cX4_append 6 (none) 4 := ⟨⟨by decide +kernel, by decide +kernel, by decide +kernel⟩, wd_684, wd_89, wd_682, wd_683⟩
def f_Qu_clear (v : T_Qu) : Option (T_Qu) :=
  (some ((Qu_loadAddress v), (Qu_loadWord v), (Qu_branch v), (Qu_heldAddress v), (Qu_heldWord v), (Qu_besideAddress v), (Qu_besideWord v), (0 : Int32), (0 : Int32), (0 : Int32), (0 : Int32), (0 : Int32), (0 : Int32)))
abbrev rm_Qu_clear : Room := { frames := 0, cells := 0, slots := 0, locals := 0 }
set_option maxRecDepth 100000 in
set_option maxHeartbeats 4000000 in
theorem m_Qu_clear (l : Launch) (D : va_G) (K : Nat → ClassId) (q : Nat → Nat) (v : T_Qu) {o_v : T_Qu} (hf : f_Qu_clear v = some o_v) : MV l yX5_clear cX5_clear 1 (none) rm_Qu_clear D K [.ref (q 0)] (cl_Qu K q v) (cl_Qu K q o_v) := by
  refine MV_of (loc0 := [(0, .ref (q 0))]) (by decide +kernel) rfl (Nat.le_of_ble_eq_true rfl) ?_
  intro p e s m args below meth c A cx
  unfold f_Qu_clear at hf
  refine r_ws (ws' := [((q 0), ob 4 [.ref (q 1), .ref (q 2), .ref (q 3), .ref (q 4), .ref (q 5), .ref (q 6), .ref (q 7), .int (Qu_firstLoad v), .int (Qu_loads v), .int (Qu_firstBranch v), .int (Qu_branches v), .int (Qu_held v), .int (Qu_comparedHeld v)]), ((q 1), aI K 8 (Qu_loadAddress v)), ((q 2), aI K 8 (Qu_loadWord v)), ((q 3), aI K 8 (Qu_branch v)), ((q 4), aI K 8 (Qu_heldAddress v)), ((q 5), aI K 8 (Qu_heldWord v)), ((q 6), aI K 8 (Qu_besideAddress v)), ((q 7), aI K 8 (Qu_besideWord v))]) rfl ?_
  refine r_aload_n (pc := 0) cx dX5_clear_0 0 rfl ?_
  refine r_iconst (pc := 1) cx dX5_clear_1 ic_0 ?_
  refine r_putI (pc := 2) (ws' := [((q 0), ob 4 [.ref (q 1), .ref (q 2), .ref (q 3), .ref (q 4), .ref (q 5), .ref (q 6), .ref (q 7), .int (0 : Int32), .int (Qu_loads v), .int (Qu_firstBranch v), .int (Qu_branches v), .int (Qu_held v), .int (Qu_comparedHeld v)]), ((q 1), aI K 8 (Qu_loadAddress v)), ((q 2), aI K 8 (Qu_loadWord v)), ((q 3), aI K 8 (Qu_branch v)), ((q 4), aI K 8 (Qu_heldAddress v)), ((q 5), aI K 8 (Qu_heldWord v)), ((q 6), aI K 8 (Qu_besideAddress v)), ((q 7), aI K 8 (Qu_besideWord v))]) cx cf_X5 0 7 rfl (by decide) (Nat.le_of_ble_eq_true rfl) rfl pfd_I wd_352 dX5_clear_2 rfl ?_
  refine r_aload_n (pc := 5) cx dX5_clear_5 0 rfl ?_
  refine r_iconst (pc := 6) cx dX5_clear_6 ic_0 ?_
  refine r_putI (pc := 7) (ws' := [((q 0), ob 4 [.ref (q 1), .ref (q 2), .ref (q 3), .ref (q 4), .ref (q 5), .ref (q 6), .ref (q 7), .int (0 : Int32), .int (0 : Int32), .int (Qu_firstBranch v), .int (Qu_branches v), .int (Qu_held v), .int (Qu_comparedHeld v)]), ((q 1), aI K 8 (Qu_loadAddress v)), ((q 2), aI K 8 (Qu_loadWord v)), ((q 3), aI K 8 (Qu_branch v)), ((q 4), aI K 8 (Qu_heldAddress v)), ((q 5), aI K 8 (Qu_heldWord v)), ((q 6), aI K 8 (Qu_besideAddress v)), ((q 7), aI K 8 (Qu_besideWord v))]) cx cf_X5 0 8 rfl (by decide) (Nat.le_of_ble_eq_true rfl) rfl pfd_I wd_353 dX5_clear_7 rfl ?_
  refine r_aload_n (pc := 10) cx dX5_clear_10 0 rfl ?_
  refine r_iconst (pc := 11) cx dX5_clear_11 ic_0 ?_
  refine r_putI (pc := 12) (ws' := [((q 0), ob 4 [.ref (q 1), .ref (q 2), .ref (q 3), .ref (q 4), .ref (q 5), .ref (q 6), .ref (q 7), .int (0 : Int32), .int (0 : Int32), .int (0 : Int32), .int (Qu_branches v), .int (Qu_held v), .int (Qu_comparedHeld v)]), ((q 1), aI K 8 (Qu_loadAddress v)), ((q 2), aI K 8 (Qu_loadWord v)), ((q 3), aI K 8 (Qu_branch v)), ((q 4), aI K 8 (Qu_heldAddress v)), ((q 5), aI K 8 (Qu_heldWord v)), ((q 6), aI K 8 (Qu_besideAddress v)), ((q 7), aI K 8 (Qu_besideWord v))]) cx cf_X5 0 9 rfl (by decide) (Nat.le_of_ble_eq_true rfl) rfl pfd_I wd_356 dX5_clear_12 rfl ?_
  refine r_aload_n (pc := 15) cx dX5_clear_15 0 rfl ?_
  refine r_iconst (pc := 16) cx dX5_clear_16 ic_0 ?_
  refine r_putI (pc := 17) (ws' := [((q 0), ob 4 [.ref (q 1), .ref (q 2), .ref (q 3), .ref (q 4), .ref (q 5), .ref (q 6), .ref (q 7), .int (0 : Int32), .int (0 : Int32), .int (0 : Int32), .int (0 : Int32), .int (Qu_held v), .int (Qu_comparedHeld v)]), ((q 1), aI K 8 (Qu_loadAddress v)), ((q 2), aI K 8 (Qu_loadWord v)), ((q 3), aI K 8 (Qu_branch v)), ((q 4), aI K 8 (Qu_heldAddress v)), ((q 5), aI K 8 (Qu_heldWord v)), ((q 6), aI K 8 (Qu_besideAddress v)), ((q 7), aI K 8 (Qu_besideWord v))]) cx cf_X5 0 10 rfl (by decide) (Nat.le_of_ble_eq_true rfl) rfl pfd_I wd_357 dX5_clear_17 rfl ?_
  refine r_aload_n (pc := 20) cx dX5_clear_20 0 rfl ?_
  refine r_iconst (pc := 21) cx dX5_clear_21 ic_0 ?_
  refine r_putI (pc := 22) (ws' := [((q 0), ob 4 [.ref (q 1), .ref (q 2), .ref (q 3), .ref (q 4), .ref (q 5), .ref (q 6), .ref (q 7), .int (0 : Int32), .int (0 : Int32), .int (0 : Int32), .int (0 : Int32), .int (0 : Int32), .int (Qu_comparedHeld v)]), ((q 1), aI K 8 (Qu_loadAddress v)), ((q 2), aI K 8 (Qu_loadWord v)), ((q 3), aI K 8 (Qu_branch v)), ((q 4), aI K 8 (Qu_heldAddress v)), ((q 5), aI K 8 (Qu_heldWord v)), ((q 6), aI K 8 (Qu_besideAddress v)), ((q 7), aI K 8 (Qu_besideWord v))]) cx cf_X5 0 11 rfl (by decide) (Nat.le_of_ble_eq_true rfl) rfl pfd_I wd_360 dX5_clear_22 rfl ?_
  refine r_aload_n (pc := 25) cx dX5_clear_25 0 rfl ?_
  refine r_iconst (pc := 26) cx dX5_clear_26 ic_0 ?_
  refine r_putI (pc := 27) (ws' := [((q 0), ob 4 [.ref (q 1), .ref (q 2), .ref (q 3), .ref (q 4), .ref (q 5), .ref (q 6), .ref (q 7), .int (0 : Int32), .int (0 : Int32), .int (0 : Int32), .int (0 : Int32), .int (0 : Int32), .int (0 : Int32)]), ((q 1), aI K 8 (Qu_loadAddress v)), ((q 2), aI K 8 (Qu_loadWord v)), ((q 3), aI K 8 (Qu_branch v)), ((q 4), aI K 8 (Qu_heldAddress v)), ((q 5), aI K 8 (Qu_heldWord v)), ((q 6), aI K 8 (Qu_besideAddress v)), ((q 7), aI K 8 (Qu_besideWord v))]) cx cf_X5 0 12 rfl (by decide) (Nat.le_of_ble_eq_true rfl) rfl pfd_I wd_363 dX5_clear_27 rfl ?_
  cases hf
  exact r_vret (pc := 30) cx rfl dX5_clear_30
theorem yv_X5_clear : YV yX5_clear cX5_clear 1 (none) 0 := ⟨⟨by decide +kernel, by decide +kernel, by decide +kernel⟩, wd_500, wd_97, wd_498, wd_499⟩
def f_Qu_copyFrom (v : T_Qu) (w : T_Qu) : Option (T_Qu) :=
  (nm (va_cpy (Qu_loadAddress w) (Qu_loadAddress v) 0 0 8) fun (f1 : Nat → Int32) => (nm (va_cpy (Qu_loadWord w) (Qu_loadWord v) 0 0 8) fun (f2 : Nat → Int32) => (nm (va_cpy (Qu_branch w) (Qu_branch v) 0 0 8) fun (f3 : Nat → Int32) => (nm (va_cpy (Qu_heldAddress w) (Qu_heldAddress v) 0 0 8) fun (f4 : Nat → Int32) => (nm (va_cpy (Qu_heldWord w) (Qu_heldWord v) 0 0 8) fun (f5 : Nat → Int32) => (nm (va_cpy (Qu_besideAddress w) (Qu_besideAddress v) 0 0 8) fun (f6 : Nat → Int32) => (nm (va_cpy (Qu_besideWord w) (Qu_besideWord v) 0 0 8) fun (f7 : Nat → Int32) => (nm (Qu_firstLoad w) fun (x8 : Int32) => (nm (Qu_loads w) fun (x9 : Int32) => (nm (Qu_firstBranch w) fun (x10 : Int32) => (nm (Qu_branches w) fun (x11 : Int32) => (nm (Qu_held w) fun (x12 : Int32) => (nm (Qu_comparedHeld w) fun (x13 : Int32) => (some (f1, f2, f3, f4, f5, f6, f7, x8, x9, x10, x11, x12, x13)))))))))))))))
abbrev rm_Qu_copyFrom : Room := { frames := 1, cells := 0, slots := 0, locals := 40 }
set_option maxRecDepth 100000 in
set_option maxHeartbeats 4000000 in
theorem m_Qu_copyFrom (l : Launch) (D : va_G) (K : Nat → ClassId) (q : Nat → Nat) (v : T_Qu) (qw : Nat → Nat) (w : T_Qu) {o_v : T_Qu} (hf : f_Qu_copyFrom v w = some o_v) : MV l yX5_copyFrom cX5_copyFrom 2 (none) rm_Qu_copyFrom D K [.ref (q 0), .ref (qw 0)] (cl_Qu K q v ++ (cl_Qu K qw w)) (cl_Qu K q o_v ++ (cl_Qu K qw w)) := by
  refine MV_of (loc0 := [(0, .ref (q 0)), (1, .ref (qw 0))]) (by decide +kernel) rfl (Nat.le_of_ble_eq_true rfl) ?_
  intro p e s m args below meth c A cx
  unfold f_Qu_copyFrom at hf
  refine r_ws (ws' := [((q 0), ob 4 [.ref (q 1), .ref (q 2), .ref (q 3), .ref (q 4), .ref (q 5), .ref (q 6), .ref (q 7), .int (Qu_firstLoad v), .int (Qu_loads v), .int (Qu_firstBranch v), .int (Qu_branches v), .int (Qu_held v), .int (Qu_comparedHeld v)]), ((q 1), aI K 8 (Qu_loadAddress v)), ((q 2), aI K 8 (Qu_loadWord v)), ((q 3), aI K 8 (Qu_branch v)), ((q 4), aI K 8 (Qu_heldAddress v)), ((q 5), aI K 8 (Qu_heldWord v)), ((q 6), aI K 8 (Qu_besideAddress v)), ((q 7), aI K 8 (Qu_besideWord v)), ((qw 0), ob 4 [.ref (qw 1), .ref (qw 2), .ref (qw 3), .ref (qw 4), .ref (qw 5), .ref (qw 6), .ref (qw 7), .int (Qu_firstLoad w), .int (Qu_loads w), .int (Qu_firstBranch w), .int (Qu_branches w), .int (Qu_held w), .int (Qu_comparedHeld w)]), ((qw 1), aI K 8 (Qu_loadAddress w)), ((qw 2), aI K 8 (Qu_loadWord w)), ((qw 3), aI K 8 (Qu_branch w)), ((qw 4), aI K 8 (Qu_heldAddress w)), ((qw 5), aI K 8 (Qu_heldWord w)), ((qw 6), aI K 8 (Qu_besideAddress w)), ((qw 7), aI K 8 (Qu_besideWord w))]) rfl ?_
  refine r_aload_n (pc := 0) cx dX5_copyFrom_0 1 rfl ?_
  refine r_get (pc := 1) cx cf_X5 8 0 rfl (by decide) rfl wd_343 dX5_copyFrom_1 ?_
  refine r_iconst (pc := 4) cx dX5_copyFrom_4 ic_0 ?_
  refine r_aload_n (pc := 5) cx dX5_copyFrom_5 0 rfl ?_
  refine r_get (pc := 6) cx cf_X5 0 0 rfl (by decide) rfl wd_343 dX5_copyFrom_6 ?_
  refine r_iconst (pc := 9) cx dX5_copyFrom_9 ic_0 ?_
  refine r_bipush (pc := 10) cx dX5_copyFrom_10 bp_8 ?_
  obtain ⟨f1, ef1, hf⟩ := nm_of hf
  refine r_copyI (pc := 12) (ws' := [((q 0), ob 4 [.ref (q 1), .ref (q 2), .ref (q 3), .ref (q 4), .ref (q 5), .ref (q 6), .ref (q 7), .int (Qu_firstLoad v), .int (Qu_loads v), .int (Qu_firstBranch v), .int (Qu_branches v), .int (Qu_held v), .int (Qu_comparedHeld v)]), ((q 1), aI K 8 f1), ((q 2), aI K 8 (Qu_loadWord v)), ((q 3), aI K 8 (Qu_branch v)), ((q 4), aI K 8 (Qu_heldAddress v)), ((q 5), aI K 8 (Qu_heldWord v)), ((q 6), aI K 8 (Qu_besideAddress v)), ((q 7), aI K 8 (Qu_besideWord v)), ((qw 0), ob 4 [.ref (qw 1), .ref (qw 2), .ref (qw 3), .ref (qw 4), .ref (qw 5), .ref (qw 6), .ref (qw 7), .int (Qu_firstLoad w), .int (Qu_loads w), .int (Qu_firstBranch w), .int (Qu_branches w), .int (Qu_held w), .int (Qu_comparedHeld w)]), ((qw 1), aI K 8 (Qu_loadAddress w)), ((qw 2), aI K 8 (Qu_loadWord w)), ((qw 3), aI K 8 (Qu_branch w)), ((qw 4), aI K 8 (Qu_heldAddress w)), ((qw 5), aI K 8 (Qu_heldWord w)), ((qw 6), aI K 8 (Qu_besideAddress w)), ((qw 7), aI K 8 (Qu_besideWord w))]) cx 9 1 rfl rfl (by decide) (nn := 8) (by decide) (by decide) (by decide) ef1 wd_1055 wd_488 wd_487 wd_100 (by decide) (by decide) dX5_copyFrom_12 rfl ?_
  refine r_aload_n (pc := 15) cx dX5_copyFrom_15 1 rfl ?_
  refine r_get (pc := 16) cx cf_X5 8 1 rfl (by decide) rfl wd_344 dX5_copyFrom_16 ?_
  refine r_iconst (pc := 19) cx dX5_copyFrom_19 ic_0 ?_
  refine r_aload_n (pc := 20) cx dX5_copyFrom_20 0 rfl ?_
  refine r_get (pc := 21) cx cf_X5 0 1 rfl (by decide) rfl wd_344 dX5_copyFrom_21 ?_
  refine r_iconst (pc := 24) cx dX5_copyFrom_24 ic_0 ?_
  refine r_bipush (pc := 25) cx dX5_copyFrom_25 bp_8 ?_
  obtain ⟨f2, ef2, hf⟩ := nm_of hf
  refine r_copyI (pc := 27) (ws' := [((q 0), ob 4 [.ref (q 1), .ref (q 2), .ref (q 3), .ref (q 4), .ref (q 5), .ref (q 6), .ref (q 7), .int (Qu_firstLoad v), .int (Qu_loads v), .int (Qu_firstBranch v), .int (Qu_branches v), .int (Qu_held v), .int (Qu_comparedHeld v)]), ((q 1), aI K 8 f1), ((q 2), aI K 8 f2), ((q 3), aI K 8 (Qu_branch v)), ((q 4), aI K 8 (Qu_heldAddress v)), ((q 5), aI K 8 (Qu_heldWord v)), ((q 6), aI K 8 (Qu_besideAddress v)), ((q 7), aI K 8 (Qu_besideWord v)), ((qw 0), ob 4 [.ref (qw 1), .ref (qw 2), .ref (qw 3), .ref (qw 4), .ref (qw 5), .ref (qw 6), .ref (qw 7), .int (Qu_firstLoad w), .int (Qu_loads w), .int (Qu_firstBranch w), .int (Qu_branches w), .int (Qu_held w), .int (Qu_comparedHeld w)]), ((qw 1), aI K 8 (Qu_loadAddress w)), ((qw 2), aI K 8 (Qu_loadWord w)), ((qw 3), aI K 8 (Qu_branch w)), ((qw 4), aI K 8 (Qu_heldAddress w)), ((qw 5), aI K 8 (Qu_heldWord w)), ((qw 6), aI K 8 (Qu_besideAddress w)), ((qw 7), aI K 8 (Qu_besideWord w))]) cx 10 2 rfl rfl (by decide) (nn := 8) (by decide) (by decide) (by decide) ef2 wd_1055 wd_488 wd_487 wd_100 (by decide) (by decide) dX5_copyFrom_27 rfl ?_
  refine r_aload_n (pc := 30) cx dX5_copyFrom_30 1 rfl ?_
  refine r_get (pc := 31) cx cf_X5 8 2 rfl (by decide) rfl wd_345 dX5_copyFrom_31 ?_
  refine r_iconst (pc := 34) cx dX5_copyFrom_34 ic_0 ?_
  refine r_aload_n (pc := 35) cx dX5_copyFrom_35 0 rfl ?_
  refine r_get (pc := 36) cx cf_X5 0 2 rfl (by decide) rfl wd_345 dX5_copyFrom_36 ?_
  refine r_iconst (pc := 39) cx dX5_copyFrom_39 ic_0 ?_
  refine r_bipush (pc := 40) cx dX5_copyFrom_40 bp_8 ?_
  obtain ⟨f3, ef3, hf⟩ := nm_of hf
  refine r_copyI (pc := 42) (ws' := [((q 0), ob 4 [.ref (q 1), .ref (q 2), .ref (q 3), .ref (q 4), .ref (q 5), .ref (q 6), .ref (q 7), .int (Qu_firstLoad v), .int (Qu_loads v), .int (Qu_firstBranch v), .int (Qu_branches v), .int (Qu_held v), .int (Qu_comparedHeld v)]), ((q 1), aI K 8 f1), ((q 2), aI K 8 f2), ((q 3), aI K 8 f3), ((q 4), aI K 8 (Qu_heldAddress v)), ((q 5), aI K 8 (Qu_heldWord v)), ((q 6), aI K 8 (Qu_besideAddress v)), ((q 7), aI K 8 (Qu_besideWord v)), ((qw 0), ob 4 [.ref (qw 1), .ref (qw 2), .ref (qw 3), .ref (qw 4), .ref (qw 5), .ref (qw 6), .ref (qw 7), .int (Qu_firstLoad w), .int (Qu_loads w), .int (Qu_firstBranch w), .int (Qu_branches w), .int (Qu_held w), .int (Qu_comparedHeld w)]), ((qw 1), aI K 8 (Qu_loadAddress w)), ((qw 2), aI K 8 (Qu_loadWord w)), ((qw 3), aI K 8 (Qu_branch w)), ((qw 4), aI K 8 (Qu_heldAddress w)), ((qw 5), aI K 8 (Qu_heldWord w)), ((qw 6), aI K 8 (Qu_besideAddress w)), ((qw 7), aI K 8 (Qu_besideWord w))]) cx 11 3 rfl rfl (by decide) (nn := 8) (by decide) (by decide) (by decide) ef3 wd_1055 wd_488 wd_487 wd_100 (by decide) (by decide) dX5_copyFrom_42 rfl ?_
  refine r_aload_n (pc := 45) cx dX5_copyFrom_45 1 rfl ?_
  refine r_get (pc := 46) cx cf_X5 8 3 rfl (by decide) rfl wd_346 dX5_copyFrom_46 ?_
  refine r_iconst (pc := 49) cx dX5_copyFrom_49 ic_0 ?_
  refine r_aload_n (pc := 50) cx dX5_copyFrom_50 0 rfl ?_
  refine r_get (pc := 51) cx cf_X5 0 3 rfl (by decide) rfl wd_346 dX5_copyFrom_51 ?_
  refine r_iconst (pc := 54) cx dX5_copyFrom_54 ic_0 ?_
  refine r_bipush (pc := 55) cx dX5_copyFrom_55 bp_8 ?_
  obtain ⟨f4, ef4, hf⟩ := nm_of hf
  refine r_copyI (pc := 57) (ws' := [((q 0), ob 4 [.ref (q 1), .ref (q 2), .ref (q 3), .ref (q 4), .ref (q 5), .ref (q 6), .ref (q 7), .int (Qu_firstLoad v), .int (Qu_loads v), .int (Qu_firstBranch v), .int (Qu_branches v), .int (Qu_held v), .int (Qu_comparedHeld v)]), ((q 1), aI K 8 f1), ((q 2), aI K 8 f2), ((q 3), aI K 8 f3), ((q 4), aI K 8 f4), ((q 5), aI K 8 (Qu_heldWord v)), ((q 6), aI K 8 (Qu_besideAddress v)), ((q 7), aI K 8 (Qu_besideWord v)), ((qw 0), ob 4 [.ref (qw 1), .ref (qw 2), .ref (qw 3), .ref (qw 4), .ref (qw 5), .ref (qw 6), .ref (qw 7), .int (Qu_firstLoad w), .int (Qu_loads w), .int (Qu_firstBranch w), .int (Qu_branches w), .int (Qu_held w), .int (Qu_comparedHeld w)]), ((qw 1), aI K 8 (Qu_loadAddress w)), ((qw 2), aI K 8 (Qu_loadWord w)), ((qw 3), aI K 8 (Qu_branch w)), ((qw 4), aI K 8 (Qu_heldAddress w)), ((qw 5), aI K 8 (Qu_heldWord w)), ((qw 6), aI K 8 (Qu_besideAddress w)), ((qw 7), aI K 8 (Qu_besideWord w))]) cx 12 4 rfl rfl (by decide) (nn := 8) (by decide) (by decide) (by decide) ef4 wd_1055 wd_488 wd_487 wd_100 (by decide) (by decide) dX5_copyFrom_57 rfl ?_
  refine r_aload_n (pc := 60) cx dX5_copyFrom_60 1 rfl ?_
  refine r_get (pc := 61) cx cf_X5 8 4 rfl (by decide) rfl wd_348 dX5_copyFrom_61 ?_
  refine r_iconst (pc := 64) cx dX5_copyFrom_64 ic_0 ?_
  refine r_aload_n (pc := 65) cx dX5_copyFrom_65 0 rfl ?_
  refine r_get (pc := 66) cx cf_X5 0 4 rfl (by decide) rfl wd_348 dX5_copyFrom_66 ?_
  refine r_iconst (pc := 69) cx dX5_copyFrom_69 ic_0 ?_
  refine r_bipush (pc := 70) cx dX5_copyFrom_70 bp_8 ?_
  obtain ⟨f5, ef5, hf⟩ := nm_of hf
  refine r_copyI (pc := 72) (ws' := [((q 0), ob 4 [.ref (q 1), .ref (q 2), .ref (q 3), .ref (q 4), .ref (q 5), .ref (q 6), .ref (q 7), .int (Qu_firstLoad v), .int (Qu_loads v), .int (Qu_firstBranch v), .int (Qu_branches v), .int (Qu_held v), .int (Qu_comparedHeld v)]), ((q 1), aI K 8 f1), ((q 2), aI K 8 f2), ((q 3), aI K 8 f3), ((q 4), aI K 8 f4), ((q 5), aI K 8 f5), ((q 6), aI K 8 (Qu_besideAddress v)), ((q 7), aI K 8 (Qu_besideWord v)), ((qw 0), ob 4 [.ref (qw 1), .ref (qw 2), .ref (qw 3), .ref (qw 4), .ref (qw 5), .ref (qw 6), .ref (qw 7), .int (Qu_firstLoad w), .int (Qu_loads w), .int (Qu_firstBranch w), .int (Qu_branches w), .int (Qu_held w), .int (Qu_comparedHeld w)]), ((qw 1), aI K 8 (Qu_loadAddress w)), ((qw 2), aI K 8 (Qu_loadWord w)), ((qw 3), aI K 8 (Qu_branch w)), ((qw 4), aI K 8 (Qu_heldAddress w)), ((qw 5), aI K 8 (Qu_heldWord w)), ((qw 6), aI K 8 (Qu_besideAddress w)), ((qw 7), aI K 8 (Qu_besideWord w))]) cx 13 5 rfl rfl (by decide) (nn := 8) (by decide) (by decide) (by decide) ef5 wd_1055 wd_488 wd_487 wd_100 (by decide) (by decide) dX5_copyFrom_72 rfl ?_
  refine r_aload_n (pc := 75) cx dX5_copyFrom_75 1 rfl ?_
  refine r_get (pc := 76) cx cf_X5 8 5 rfl (by decide) rfl wd_350 dX5_copyFrom_76 ?_
  refine r_iconst (pc := 79) cx dX5_copyFrom_79 ic_0 ?_
  refine r_aload_n (pc := 80) cx dX5_copyFrom_80 0 rfl ?_
  refine r_get (pc := 81) cx cf_X5 0 5 rfl (by decide) rfl wd_350 dX5_copyFrom_81 ?_
  refine r_iconst (pc := 84) cx dX5_copyFrom_84 ic_0 ?_
  refine r_bipush (pc := 85) cx dX5_copyFrom_85 bp_8 ?_
  obtain ⟨f6, ef6, hf⟩ := nm_of hf
  refine r_copyI (pc := 87) (ws' := [((q 0), ob 4 [.ref (q 1), .ref (q 2), .ref (q 3), .ref (q 4), .ref (q 5), .ref (q 6), .ref (q 7), .int (Qu_firstLoad v), .int (Qu_loads v), .int (Qu_firstBranch v), .int (Qu_branches v), .int (Qu_held v), .int (Qu_comparedHeld v)]), ((q 1), aI K 8 f1), ((q 2), aI K 8 f2), ((q 3), aI K 8 f3), ((q 4), aI K 8 f4), ((q 5), aI K 8 f5), ((q 6), aI K 8 f6), ((q 7), aI K 8 (Qu_besideWord v)), ((qw 0), ob 4 [.ref (qw 1), .ref (qw 2), .ref (qw 3), .ref (qw 4), .ref (qw 5), .ref (qw 6), .ref (qw 7), .int (Qu_firstLoad w), .int (Qu_loads w), .int (Qu_firstBranch w), .int (Qu_branches w), .int (Qu_held w), .int (Qu_comparedHeld w)]), ((qw 1), aI K 8 (Qu_loadAddress w)), ((qw 2), aI K 8 (Qu_loadWord w)), ((qw 3), aI K 8 (Qu_branch w)), ((qw 4), aI K 8 (Qu_heldAddress w)), ((qw 5), aI K 8 (Qu_heldWord w)), ((qw 6), aI K 8 (Qu_besideAddress w)), ((qw 7), aI K 8 (Qu_besideWord w))]) cx 14 6 rfl rfl (by decide) (nn := 8) (by decide) (by decide) (by decide) ef6 wd_1055 wd_488 wd_487 wd_100 (by decide) (by decide) dX5_copyFrom_87 rfl ?_
  refine r_aload_n (pc := 90) cx dX5_copyFrom_90 1 rfl ?_
  refine r_get (pc := 91) cx cf_X5 8 6 rfl (by decide) rfl wd_351 dX5_copyFrom_91 ?_
  refine r_iconst (pc := 94) cx dX5_copyFrom_94 ic_0 ?_
  refine r_aload_n (pc := 95) cx dX5_copyFrom_95 0 rfl ?_
  refine r_get (pc := 96) cx cf_X5 0 6 rfl (by decide) rfl wd_351 dX5_copyFrom_96 ?_
  refine r_iconst (pc := 99) cx dX5_copyFrom_99 ic_0 ?_
  refine r_bipush (pc := 100) cx dX5_copyFrom_100 bp_8 ?_
  obtain ⟨f7, ef7, hf⟩ := nm_of hf
  refine r_copyI (pc := 102) (ws' := [((q 0), ob 4 [.ref (q 1), .ref (q 2), .ref (q 3), .ref (q 4), .ref (q 5), .ref (q 6), .ref (q 7), .int (Qu_firstLoad v), .int (Qu_loads v), .int (Qu_firstBranch v), .int (Qu_branches v), .int (Qu_held v), .int (Qu_comparedHeld v)]), ((q 1), aI K 8 f1), ((q 2), aI K 8 f2), ((q 3), aI K 8 f3), ((q 4), aI K 8 f4), ((q 5), aI K 8 f5), ((q 6), aI K 8 f6), ((q 7), aI K 8 f7), ((qw 0), ob 4 [.ref (qw 1), .ref (qw 2), .ref (qw 3), .ref (qw 4), .ref (qw 5), .ref (qw 6), .ref (qw 7), .int (Qu_firstLoad w), .int (Qu_loads w), .int (Qu_firstBranch w), .int (Qu_branches w), .int (Qu_held w), .int (Qu_comparedHeld w)]), ((qw 1), aI K 8 (Qu_loadAddress w)), ((qw 2), aI K 8 (Qu_loadWord w)), ((qw 3), aI K 8 (Qu_branch w)), ((qw 4), aI K 8 (Qu_heldAddress w)), ((qw 5), aI K 8 (Qu_heldWord w)), ((qw 6), aI K 8 (Qu_besideAddress w)), ((qw 7), aI K 8 (Qu_besideWord w))]) cx 15 7 rfl rfl (by decide) (nn := 8) (by decide) (by decide) (by decide) ef7 wd_1055 wd_488 wd_487 wd_100 (by decide) (by decide) dX5_copyFrom_102 rfl ?_
  refine r_aload_n (pc := 105) cx dX5_copyFrom_105 0 rfl ?_
  refine r_aload_n (pc := 106) cx dX5_copyFrom_106 1 rfl ?_
  refine r_get (pc := 107) cx cf_X5 8 7 rfl (by decide) rfl wd_352 dX5_copyFrom_107 ?_
  obtain ⟨x8, ex8, hf⟩ := nm_of hf
  refine r_nm ex8 ?_
  refine r_putI (pc := 110) (ws' := [((q 0), ob 4 [.ref (q 1), .ref (q 2), .ref (q 3), .ref (q 4), .ref (q 5), .ref (q 6), .ref (q 7), .int x8, .int (Qu_loads v), .int (Qu_firstBranch v), .int (Qu_branches v), .int (Qu_held v), .int (Qu_comparedHeld v)]), ((q 1), aI K 8 f1), ((q 2), aI K 8 f2), ((q 3), aI K 8 f3), ((q 4), aI K 8 f4), ((q 5), aI K 8 f5), ((q 6), aI K 8 f6), ((q 7), aI K 8 f7), ((qw 0), ob 4 [.ref (qw 1), .ref (qw 2), .ref (qw 3), .ref (qw 4), .ref (qw 5), .ref (qw 6), .ref (qw 7), .int (Qu_firstLoad w), .int (Qu_loads w), .int (Qu_firstBranch w), .int (Qu_branches w), .int (Qu_held w), .int (Qu_comparedHeld w)]), ((qw 1), aI K 8 (Qu_loadAddress w)), ((qw 2), aI K 8 (Qu_loadWord w)), ((qw 3), aI K 8 (Qu_branch w)), ((qw 4), aI K 8 (Qu_heldAddress w)), ((qw 5), aI K 8 (Qu_heldWord w)), ((qw 6), aI K 8 (Qu_besideAddress w)), ((qw 7), aI K 8 (Qu_besideWord w))]) cx cf_X5 0 7 rfl (by decide) (Nat.le_of_ble_eq_true rfl) rfl pfd_I wd_352 dX5_copyFrom_110 rfl ?_
  refine r_aload_n (pc := 113) cx dX5_copyFrom_113 0 rfl ?_
  refine r_aload_n (pc := 114) cx dX5_copyFrom_114 1 rfl ?_
  refine r_get (pc := 115) cx cf_X5 8 8 rfl (by decide) rfl wd_353 dX5_copyFrom_115 ?_
  obtain ⟨x9, ex9, hf⟩ := nm_of hf
  refine r_nm ex9 ?_
  refine r_putI (pc := 118) (ws' := [((q 0), ob 4 [.ref (q 1), .ref (q 2), .ref (q 3), .ref (q 4), .ref (q 5), .ref (q 6), .ref (q 7), .int x8, .int x9, .int (Qu_firstBranch v), .int (Qu_branches v), .int (Qu_held v), .int (Qu_comparedHeld v)]), ((q 1), aI K 8 f1), ((q 2), aI K 8 f2), ((q 3), aI K 8 f3), ((q 4), aI K 8 f4), ((q 5), aI K 8 f5), ((q 6), aI K 8 f6), ((q 7), aI K 8 f7), ((qw 0), ob 4 [.ref (qw 1), .ref (qw 2), .ref (qw 3), .ref (qw 4), .ref (qw 5), .ref (qw 6), .ref (qw 7), .int (Qu_firstLoad w), .int (Qu_loads w), .int (Qu_firstBranch w), .int (Qu_branches w), .int (Qu_held w), .int (Qu_comparedHeld w)]), ((qw 1), aI K 8 (Qu_loadAddress w)), ((qw 2), aI K 8 (Qu_loadWord w)), ((qw 3), aI K 8 (Qu_branch w)), ((qw 4), aI K 8 (Qu_heldAddress w)), ((qw 5), aI K 8 (Qu_heldWord w)), ((qw 6), aI K 8 (Qu_besideAddress w)), ((qw 7), aI K 8 (Qu_besideWord w))]) cx cf_X5 0 8 rfl (by decide) (Nat.le_of_ble_eq_true rfl) rfl pfd_I wd_353 dX5_copyFrom_118 rfl ?_
  refine r_aload_n (pc := 121) cx dX5_copyFrom_121 0 rfl ?_
  refine r_aload_n (pc := 122) cx dX5_copyFrom_122 1 rfl ?_
  refine r_get (pc := 123) cx cf_X5 8 9 rfl (by decide) rfl wd_356 dX5_copyFrom_123 ?_
  obtain ⟨x10, ex10, hf⟩ := nm_of hf
  refine r_nm ex10 ?_
  refine r_putI (pc := 126) (ws' := [((q 0), ob 4 [.ref (q 1), .ref (q 2), .ref (q 3), .ref (q 4), .ref (q 5), .ref (q 6), .ref (q 7), .int x8, .int x9, .int x10, .int (Qu_branches v), .int (Qu_held v), .int (Qu_comparedHeld v)]), ((q 1), aI K 8 f1), ((q 2), aI K 8 f2), ((q 3), aI K 8 f3), ((q 4), aI K 8 f4), ((q 5), aI K 8 f5), ((q 6), aI K 8 f6), ((q 7), aI K 8 f7), ((qw 0), ob 4 [.ref (qw 1), .ref (qw 2), .ref (qw 3), .ref (qw 4), .ref (qw 5), .ref (qw 6), .ref (qw 7), .int (Qu_firstLoad w), .int (Qu_loads w), .int (Qu_firstBranch w), .int (Qu_branches w), .int (Qu_held w), .int (Qu_comparedHeld w)]), ((qw 1), aI K 8 (Qu_loadAddress w)), ((qw 2), aI K 8 (Qu_loadWord w)), ((qw 3), aI K 8 (Qu_branch w)), ((qw 4), aI K 8 (Qu_heldAddress w)), ((qw 5), aI K 8 (Qu_heldWord w)), ((qw 6), aI K 8 (Qu_besideAddress w)), ((qw 7), aI K 8 (Qu_besideWord w))]) cx cf_X5 0 9 rfl (by decide) (Nat.le_of_ble_eq_true rfl) rfl pfd_I wd_356 dX5_copyFrom_126 rfl ?_
  refine r_aload_n (pc := 129) cx dX5_copyFrom_129 0 rfl ?_
  refine r_aload_n (pc := 130) cx dX5_copyFrom_130 1 rfl ?_
  refine r_get (pc := 131) cx cf_X5 8 10 rfl (by decide) rfl wd_357 dX5_copyFrom_131 ?_
  obtain ⟨x11, ex11, hf⟩ := nm_of hf
  refine r_nm ex11 ?_
  refine r_putI (pc := 134) (ws' := [((q 0), ob 4 [.ref (q 1), .ref (q 2), .ref (q 3), .ref (q 4), .ref (q 5), .ref (q 6), .ref (q 7), .int x8, .int x9, .int x10, .int x11, .int (Qu_held v), .int (Qu_comparedHeld v)]), ((q 1), aI K 8 f1), ((q 2), aI K 8 f2), ((q 3), aI K 8 f3), ((q 4), aI K 8 f4), ((q 5), aI K 8 f5), ((q 6), aI K 8 f6), ((q 7), aI K 8 f7), ((qw 0), ob 4 [.ref (qw 1), .ref (qw 2), .ref (qw 3), .ref (qw 4), .ref (qw 5), .ref (qw 6), .ref (qw 7), .int (Qu_firstLoad w), .int (Qu_loads w), .int (Qu_firstBranch w), .int (Qu_branches w), .int (Qu_held w), .int (Qu_comparedHeld w)]), ((qw 1), aI K 8 (Qu_loadAddress w)), ((qw 2), aI K 8 (Qu_loadWord w)), ((qw 3), aI K 8 (Qu_branch w)), ((qw 4), aI K 8 (Qu_heldAddress w)), ((qw 5), aI K 8 (Qu_heldWord w)), ((qw 6), aI K 8 (Qu_besideAddress w)), ((qw 7), aI K 8 (Qu_besideWord w))]) cx cf_X5 0 10 rfl (by decide) (Nat.le_of_ble_eq_true rfl) rfl pfd_I wd_357 dX5_copyFrom_134 rfl ?_
  refine r_aload_n (pc := 137) cx dX5_copyFrom_137 0 rfl ?_
  refine r_aload_n (pc := 138) cx dX5_copyFrom_138 1 rfl ?_
  refine r_get (pc := 139) cx cf_X5 8 11 rfl (by decide) rfl wd_360 dX5_copyFrom_139 ?_
  obtain ⟨x12, ex12, hf⟩ := nm_of hf
  refine r_nm ex12 ?_
  refine r_putI (pc := 142) (ws' := [((q 0), ob 4 [.ref (q 1), .ref (q 2), .ref (q 3), .ref (q 4), .ref (q 5), .ref (q 6), .ref (q 7), .int x8, .int x9, .int x10, .int x11, .int x12, .int (Qu_comparedHeld v)]), ((q 1), aI K 8 f1), ((q 2), aI K 8 f2), ((q 3), aI K 8 f3), ((q 4), aI K 8 f4), ((q 5), aI K 8 f5), ((q 6), aI K 8 f6), ((q 7), aI K 8 f7), ((qw 0), ob 4 [.ref (qw 1), .ref (qw 2), .ref (qw 3), .ref (qw 4), .ref (qw 5), .ref (qw 6), .ref (qw 7), .int (Qu_firstLoad w), .int (Qu_loads w), .int (Qu_firstBranch w), .int (Qu_branches w), .int (Qu_held w), .int (Qu_comparedHeld w)]), ((qw 1), aI K 8 (Qu_loadAddress w)), ((qw 2), aI K 8 (Qu_loadWord w)), ((qw 3), aI K 8 (Qu_branch w)), ((qw 4), aI K 8 (Qu_heldAddress w)), ((qw 5), aI K 8 (Qu_heldWord w)), ((qw 6), aI K 8 (Qu_besideAddress w)), ((qw 7), aI K 8 (Qu_besideWord w))]) cx cf_X5 0 11 rfl (by decide) (Nat.le_of_ble_eq_true rfl) rfl pfd_I wd_360 dX5_copyFrom_142 rfl ?_
  refine r_aload_n (pc := 145) cx dX5_copyFrom_145 0 rfl ?_
  refine r_aload_n (pc := 146) cx dX5_copyFrom_146 1 rfl ?_
  refine r_get (pc := 147) cx cf_X5 8 12 rfl (by decide) rfl wd_363 dX5_copyFrom_147 ?_
  obtain ⟨x13, ex13, hf⟩ := nm_of hf
  refine r_nm ex13 ?_
  refine r_putI (pc := 150) (ws' := [((q 0), ob 4 [.ref (q 1), .ref (q 2), .ref (q 3), .ref (q 4), .ref (q 5), .ref (q 6), .ref (q 7), .int x8, .int x9, .int x10, .int x11, .int x12, .int x13]), ((q 1), aI K 8 f1), ((q 2), aI K 8 f2), ((q 3), aI K 8 f3), ((q 4), aI K 8 f4), ((q 5), aI K 8 f5), ((q 6), aI K 8 f6), ((q 7), aI K 8 f7), ((qw 0), ob 4 [.ref (qw 1), .ref (qw 2), .ref (qw 3), .ref (qw 4), .ref (qw 5), .ref (qw 6), .ref (qw 7), .int (Qu_firstLoad w), .int (Qu_loads w), .int (Qu_firstBranch w), .int (Qu_branches w), .int (Qu_held w), .int (Qu_comparedHeld w)]), ((qw 1), aI K 8 (Qu_loadAddress w)), ((qw 2), aI K 8 (Qu_loadWord w)), ((qw 3), aI K 8 (Qu_branch w)), ((qw 4), aI K 8 (Qu_heldAddress w)), ((qw 5), aI K 8 (Qu_heldWord w)), ((qw 6), aI K 8 (Qu_besideAddress w)), ((qw 7), aI K 8 (Qu_besideWord w))]) cx cf_X5 0 12 rfl (by decide) (Nat.le_of_ble_eq_true rfl) rfl pfd_I wd_363 dX5_copyFrom_150 rfl ?_
  cases hf
  exact r_vret (pc := 153) cx rfl dX5_copyFrom_153
theorem yv_X5_copyFrom : YV yX5_copyFrom cX5_copyFrom 2 (none) 1 := ⟨⟨by decide +kernel, by decide +kernel, by decide +kernel⟩, wd_1054, wd_97, wd_1052, wd_1053⟩
def f_Qu_addLoad (v : T_Qu) (a1 : Int32) (a2 : Int32) : Option (T_Qu) :=
  (nm (((Qu_firstLoad v) + (Qu_loads v)) &&& (7 : Int32)) fun (x1 : Int32) => (nm (upd (Qu_loadAddress v) x1.toNatClampNeg a1) fun (f2 : Nat → Int32) => (nm (upd (Qu_loadWord v) x1.toNatClampNeg a2) fun (f3 : Nat → Int32) => (nm ((Qu_loads v) + (1 : Int32)) fun (x4 : Int32) => (some (f2, f3, (Qu_branch v), (Qu_heldAddress v), (Qu_heldWord v), (Qu_besideAddress v), (Qu_besideWord v), (Qu_firstLoad v), x4, (Qu_firstBranch v), (Qu_branches v), (Qu_held v), (Qu_comparedHeld v)))))))
abbrev rm_Qu_addLoad : Room := { frames := 0, cells := 0, slots := 0, locals := 0 }
set_option maxRecDepth 100000 in
set_option maxHeartbeats 4000000 in
theorem m_Qu_addLoad (l : Launch) (D : va_G) (K : Nat → ClassId) (q : Nat → Nat) (v : T_Qu) (a1 : Int32) (a2 : Int32) {o_v : T_Qu} (hf : f_Qu_addLoad v a1 a2 = some o_v) : MV l yX5_addLoad cX5_addLoad 4 (none) rm_Qu_addLoad D K [.ref (q 0), .int a1, .int a2] (cl_Qu K q v) (cl_Qu K q o_v) := by
  refine MV_of (loc0 := [(0, .ref (q 0)), (1, .int a1), (2, .int a2)]) (by decide +kernel) rfl (Nat.le_of_ble_eq_true rfl) ?_
  intro p e s m args below meth c A cx
  unfold f_Qu_addLoad at hf
  refine r_ws (ws' := [((q 0), ob 4 [.ref (q 1), .ref (q 2), .ref (q 3), .ref (q 4), .ref (q 5), .ref (q 6), .ref (q 7), .int (Qu_firstLoad v), .int (Qu_loads v), .int (Qu_firstBranch v), .int (Qu_branches v), .int (Qu_held v), .int (Qu_comparedHeld v)]), ((q 1), aI K 8 (Qu_loadAddress v)), ((q 2), aI K 8 (Qu_loadWord v)), ((q 3), aI K 8 (Qu_branch v)), ((q 4), aI K 8 (Qu_heldAddress v)), ((q 5), aI K 8 (Qu_heldWord v)), ((q 6), aI K 8 (Qu_besideAddress v)), ((q 7), aI K 8 (Qu_besideWord v))]) rfl ?_
  refine r_aload_n (pc := 0) cx dX5_addLoad_0 0 rfl ?_
  refine r_get (pc := 1) cx cf_X5 0 7 rfl (by decide) rfl wd_352 dX5_addLoad_1 ?_
  refine r_aload_n (pc := 4) cx dX5_addLoad_4 0 rfl ?_
  refine r_get (pc := 5) cx cf_X5 0 8 rfl (by decide) rfl wd_353 dX5_addLoad_5 ?_
  refine r_iadd (pc := 8) cx dX5_addLoad_8 ?_
  refine r_bipush (pc := 9) cx dX5_addLoad_9 bp_7 ?_
  refine r_iand (pc := 11) cx dX5_addLoad_11 ?_
  obtain ⟨x1, ex1, hf⟩ := nm_of hf
  refine r_nm ex1 ?_
  refine r_istore_n (pc := 12) (loc' := [(3, .int x1), (0, .ref (q 0)), (1, .int a1), (2, .int a2)]) cx dX5_addLoad_12 rfl (by decide) rfl ?_
  refine r_aload_n (pc := 13) cx dX5_addLoad_13 1 rfl ?_
  refine r_get (pc := 14) cx cf_X5 0 0 rfl (by decide) rfl wd_343 dX5_addLoad_14 ?_
  refine r_iload_n (pc := 17) cx dX5_addLoad_17 0 rfl ?_
  refine r_iload_n (pc := 18) cx dX5_addLoad_18 2 rfl ?_
  obtain ⟨f2, ef2, hf⟩ := nm_of hf
  refine r_iast (pc := 19) (ws' := [((q 0), ob 4 [.ref (q 1), .ref (q 2), .ref (q 3), .ref (q 4), .ref (q 5), .ref (q 6), .ref (q 7), .int (Qu_firstLoad v), .int (Qu_loads v), .int (Qu_firstBranch v), .int (Qu_branches v), .int (Qu_held v), .int (Qu_comparedHeld v)]), ((q 1), aI K 8 f2), ((q 2), aI K 8 (Qu_loadWord v)), ((q 3), aI K 8 (Qu_branch v)), ((q 4), aI K 8 (Qu_heldAddress v)), ((q 5), aI K 8 (Qu_heldWord v)), ((q 6), aI K 8 (Qu_besideAddress v)), ((q 7), aI K 8 (Qu_besideWord v))]) cx 1 rfl (by rw [ex1]; exact ix_and7 _) dX5_addLoad_19 ef2 rfl ?_
  refine r_aload_n (pc := 20) cx dX5_addLoad_20 1 rfl ?_
  refine r_get (pc := 21) cx cf_X5 0 1 rfl (by decide) rfl wd_344 dX5_addLoad_21 ?_
  refine r_iload_n (pc := 24) cx dX5_addLoad_24 0 rfl ?_
  refine r_iload_n (pc := 25) cx dX5_addLoad_25 3 rfl ?_
  obtain ⟨f3, ef3, hf⟩ := nm_of hf
  refine r_iast (pc := 26) (ws' := [((q 0), ob 4 [.ref (q 1), .ref (q 2), .ref (q 3), .ref (q 4), .ref (q 5), .ref (q 6), .ref (q 7), .int (Qu_firstLoad v), .int (Qu_loads v), .int (Qu_firstBranch v), .int (Qu_branches v), .int (Qu_held v), .int (Qu_comparedHeld v)]), ((q 1), aI K 8 f2), ((q 2), aI K 8 f3), ((q 3), aI K 8 (Qu_branch v)), ((q 4), aI K 8 (Qu_heldAddress v)), ((q 5), aI K 8 (Qu_heldWord v)), ((q 6), aI K 8 (Qu_besideAddress v)), ((q 7), aI K 8 (Qu_besideWord v))]) cx 2 rfl (by rw [ex1]; exact ix_and7 _) dX5_addLoad_26 ef3 rfl ?_
  refine r_aload_n (pc := 27) cx dX5_addLoad_27 1 rfl ?_
  refine r_dup (pc := 28) cx dX5_addLoad_28 rfl ?_
  refine r_get (pc := 29) cx cf_X5 0 8 rfl (by decide) rfl wd_353 dX5_addLoad_29 ?_
  refine r_iconst (pc := 32) cx dX5_addLoad_32 ic_1 ?_
  refine r_iadd (pc := 33) cx dX5_addLoad_33 ?_
  obtain ⟨x4, ex4, hf⟩ := nm_of hf
  refine r_nm ex4 ?_
  refine r_putI (pc := 34) (ws' := [((q 0), ob 4 [.ref (q 1), .ref (q 2), .ref (q 3), .ref (q 4), .ref (q 5), .ref (q 6), .ref (q 7), .int (Qu_firstLoad v), .int x4, .int (Qu_firstBranch v), .int (Qu_branches v), .int (Qu_held v), .int (Qu_comparedHeld v)]), ((q 1), aI K 8 f2), ((q 2), aI K 8 f3), ((q 3), aI K 8 (Qu_branch v)), ((q 4), aI K 8 (Qu_heldAddress v)), ((q 5), aI K 8 (Qu_heldWord v)), ((q 6), aI K 8 (Qu_besideAddress v)), ((q 7), aI K 8 (Qu_besideWord v))]) cx cf_X5 0 8 rfl (by decide) (Nat.le_of_ble_eq_true rfl) rfl pfd_I wd_353 dX5_addLoad_34 rfl ?_
  cases hf
  exact r_vret (pc := 37) cx rfl dX5_addLoad_37
theorem yv_X5_addLoad : YV yX5_addLoad cX5_addLoad 4 (none) 2 := ⟨⟨by decide +kernel, by decide +kernel, by decide +kernel⟩, wd_879, wd_97, wd_877, wd_878⟩
def f_Qu_firstLoadAddress (v : T_Qu) : Option (Int32) :=
  (some ((Qu_loadAddress v) (((Qu_firstLoad v) &&& (7 : Int32))).toNatClampNeg))
abbrev rm_Qu_firstLoadAddress : Room := { frames := 0, cells := 0, slots := 0, locals := 0 }
set_option maxRecDepth 100000 in
set_option maxHeartbeats 4000000 in
theorem m_Qu_firstLoadAddress (l : Launch) (D : va_G) (K : Nat → ClassId) (q : Nat → Nat) (v : T_Qu) {r_ : Int32} (hf : f_Qu_firstLoadAddress v = some r_) : MI l yX5_firstLoadAddress cX5_firstLoadAddress 1 (some .int) rm_Qu_firstLoadAddress D K [.ref (q 0)] (cl_Qu K q v) r_ (cl_Qu K q v) := by
  refine MI_of (loc0 := [(0, .ref (q 0))]) (by decide +kernel) rfl (Nat.le_of_ble_eq_true rfl) ?_
  intro p e s m args below meth c A cx
  unfold f_Qu_firstLoadAddress at hf
  refine r_ws (ws' := [((q 0), ob 4 [.ref (q 1), .ref (q 2), .ref (q 3), .ref (q 4), .ref (q 5), .ref (q 6), .ref (q 7), .int (Qu_firstLoad v), .int (Qu_loads v), .int (Qu_firstBranch v), .int (Qu_branches v), .int (Qu_held v), .int (Qu_comparedHeld v)]), ((q 1), aI K 8 (Qu_loadAddress v)), ((q 2), aI K 8 (Qu_loadWord v)), ((q 3), aI K 8 (Qu_branch v)), ((q 4), aI K 8 (Qu_heldAddress v)), ((q 5), aI K 8 (Qu_heldWord v)), ((q 6), aI K 8 (Qu_besideAddress v)), ((q 7), aI K 8 (Qu_besideWord v))]) rfl ?_
  refine r_aload_n (pc := 0) cx dX5_firstLoadAddress_0 0 rfl ?_
  refine r_get (pc := 1) cx cf_X5 0 0 rfl (by decide) rfl wd_343 dX5_firstLoadAddress_1 ?_
  refine r_aload_n (pc := 4) cx dX5_firstLoadAddress_4 0 rfl ?_
  refine r_get (pc := 5) cx cf_X5 0 7 rfl (by decide) rfl wd_352 dX5_firstLoadAddress_5 ?_
  refine r_bipush (pc := 8) cx dX5_firstLoadAddress_8 bp_7 ?_
  refine r_iand (pc := 10) cx dX5_firstLoadAddress_10 ?_
  refine r_iald (pc := 11) cx 1 rfl (ix_and7 _) dX5_firstLoadAddress_11 ?_
  cases hf
  exact r_iret (pc := 12) cx rfl rfl dX5_firstLoadAddress_12
theorem yv_X5_firstLoadAddress : YV yX5_firstLoadAddress cX5_firstLoadAddress 1 (some .int) 0 := ⟨⟨by decide +kernel, by decide +kernel, by decide +kernel⟩, wd_737, wd_97, wd_735, wd_736⟩
def f_Qu_removeLoad (v : T_Qu) : Option (Int32 × T_Qu) :=
  (nm ((Qu_loadWord v) (((Qu_firstLoad v) &&& (7 : Int32))).toNatClampNeg) fun (x1 : Int32) => (nm (((Qu_firstLoad v) + (1 : Int32)) &&& (7 : Int32)) fun (x2 : Int32) => (nm ((Qu_loads v) - (1 : Int32)) fun (x3 : Int32) => (some (x1, ((Qu_loadAddress v), (Qu_loadWord v), (Qu_branch v), (Qu_heldAddress v), (Qu_heldWord v), (Qu_besideAddress v), (Qu_besideWord v), x2, x3, (Qu_firstBranch v), (Qu_branches v), (Qu_held v), (Qu_comparedHeld v)))))))
abbrev rm_Qu_removeLoad : Room := { frames := 0, cells := 0, slots := 0, locals := 0 }
set_option maxRecDepth 100000 in
set_option maxHeartbeats 4000000 in
theorem m_Qu_removeLoad (l : Launch) (D : va_G) (K : Nat → ClassId) (q : Nat → Nat) (v : T_Qu) {r_ : Int32} {o_v : T_Qu} (hf : f_Qu_removeLoad v = some (r_, o_v)) : MI l yX5_removeLoad cX5_removeLoad 2 (some .int) rm_Qu_removeLoad D K [.ref (q 0)] (cl_Qu K q v) r_ (cl_Qu K q o_v) := by
  refine MI_of (loc0 := [(0, .ref (q 0))]) (by decide +kernel) rfl (Nat.le_of_ble_eq_true rfl) ?_
  intro p e s m args below meth c A cx
  unfold f_Qu_removeLoad at hf
  refine r_ws (ws' := [((q 0), ob 4 [.ref (q 1), .ref (q 2), .ref (q 3), .ref (q 4), .ref (q 5), .ref (q 6), .ref (q 7), .int (Qu_firstLoad v), .int (Qu_loads v), .int (Qu_firstBranch v), .int (Qu_branches v), .int (Qu_held v), .int (Qu_comparedHeld v)]), ((q 1), aI K 8 (Qu_loadAddress v)), ((q 2), aI K 8 (Qu_loadWord v)), ((q 3), aI K 8 (Qu_branch v)), ((q 4), aI K 8 (Qu_heldAddress v)), ((q 5), aI K 8 (Qu_heldWord v)), ((q 6), aI K 8 (Qu_besideAddress v)), ((q 7), aI K 8 (Qu_besideWord v))]) rfl ?_
  refine r_aload_n (pc := 0) cx dX5_removeLoad_0 0 rfl ?_
  refine r_get (pc := 1) cx cf_X5 0 1 rfl (by decide) rfl wd_344 dX5_removeLoad_1 ?_
  refine r_aload_n (pc := 4) cx dX5_removeLoad_4 0 rfl ?_
  refine r_get (pc := 5) cx cf_X5 0 7 rfl (by decide) rfl wd_352 dX5_removeLoad_5 ?_
  refine r_bipush (pc := 8) cx dX5_removeLoad_8 bp_7 ?_
  refine r_iand (pc := 10) cx dX5_removeLoad_10 ?_
  refine r_iald (pc := 11) cx 2 rfl (ix_and7 _) dX5_removeLoad_11 ?_
  obtain ⟨x1, ex1, hf⟩ := nm_of hf
  refine r_nm ex1 ?_
  refine r_istore_n (pc := 12) (loc' := [(1, .int x1), (0, .ref (q 0))]) cx dX5_removeLoad_12 rfl (by decide) rfl ?_
  refine r_aload_n (pc := 13) cx dX5_removeLoad_13 1 rfl ?_
  refine r_aload_n (pc := 14) cx dX5_removeLoad_14 1 rfl ?_
  refine r_get (pc := 15) cx cf_X5 0 7 rfl (by decide) rfl wd_352 dX5_removeLoad_15 ?_
  refine r_iconst (pc := 18) cx dX5_removeLoad_18 ic_1 ?_
  refine r_iadd (pc := 19) cx dX5_removeLoad_19 ?_
  refine r_bipush (pc := 20) cx dX5_removeLoad_20 bp_7 ?_
  refine r_iand (pc := 22) cx dX5_removeLoad_22 ?_
  obtain ⟨x2, ex2, hf⟩ := nm_of hf
  refine r_nm ex2 ?_
  refine r_putI (pc := 23) (ws' := [((q 0), ob 4 [.ref (q 1), .ref (q 2), .ref (q 3), .ref (q 4), .ref (q 5), .ref (q 6), .ref (q 7), .int x2, .int (Qu_loads v), .int (Qu_firstBranch v), .int (Qu_branches v), .int (Qu_held v), .int (Qu_comparedHeld v)]), ((q 1), aI K 8 (Qu_loadAddress v)), ((q 2), aI K 8 (Qu_loadWord v)), ((q 3), aI K 8 (Qu_branch v)), ((q 4), aI K 8 (Qu_heldAddress v)), ((q 5), aI K 8 (Qu_heldWord v)), ((q 6), aI K 8 (Qu_besideAddress v)), ((q 7), aI K 8 (Qu_besideWord v))]) cx cf_X5 0 7 rfl (by decide) (Nat.le_of_ble_eq_true rfl) rfl pfd_I wd_352 dX5_removeLoad_23 rfl ?_
  refine r_aload_n (pc := 26) cx dX5_removeLoad_26 1 rfl ?_
  refine r_dup (pc := 27) cx dX5_removeLoad_27 rfl ?_
  refine r_get (pc := 28) cx cf_X5 0 8 rfl (by decide) rfl wd_353 dX5_removeLoad_28 ?_
  refine r_iconst (pc := 31) cx dX5_removeLoad_31 ic_1 ?_
  refine r_isub (pc := 32) cx dX5_removeLoad_32 ?_
  obtain ⟨x3, ex3, hf⟩ := nm_of hf
  refine r_nm ex3 ?_
  refine r_putI (pc := 33) (ws' := [((q 0), ob 4 [.ref (q 1), .ref (q 2), .ref (q 3), .ref (q 4), .ref (q 5), .ref (q 6), .ref (q 7), .int x2, .int x3, .int (Qu_firstBranch v), .int (Qu_branches v), .int (Qu_held v), .int (Qu_comparedHeld v)]), ((q 1), aI K 8 (Qu_loadAddress v)), ((q 2), aI K 8 (Qu_loadWord v)), ((q 3), aI K 8 (Qu_branch v)), ((q 4), aI K 8 (Qu_heldAddress v)), ((q 5), aI K 8 (Qu_heldWord v)), ((q 6), aI K 8 (Qu_besideAddress v)), ((q 7), aI K 8 (Qu_besideWord v))]) cx cf_X5 0 8 rfl (by decide) (Nat.le_of_ble_eq_true rfl) rfl pfd_I wd_353 dX5_removeLoad_33 rfl ?_
  refine r_iload_n (pc := 36) cx dX5_removeLoad_36 0 rfl ?_
  cases hf
  exact r_iret (pc := 37) cx rfl rfl dX5_removeLoad_37
theorem yv_X5_removeLoad : YV yX5_removeLoad cX5_removeLoad 2 (some .int) 0 := ⟨⟨by decide +kernel, by decide +kernel, by decide +kernel⟩, wd_792, wd_97, wd_790, wd_791⟩
def f_Qu_addBranch (v : T_Qu) (a1 : Int32) : Option (T_Qu) :=
  (nm (fun (y1 : Int32) => ((nm (upd (Qu_branch v) ((((Qu_firstBranch v) + (Qu_branches v)) &&& (7 : Int32))).toNatClampNeg y1) fun (f3 : Nat → Int32) => (nm ((Qu_branches v) + (1 : Int32)) fun (x4 : Int32) => (some ((Qu_loadAddress v), (Qu_loadWord v), f3, (Qu_heldAddress v), (Qu_heldWord v), (Qu_besideAddress v), (Qu_besideWord v), (Qu_firstLoad v), (Qu_loads v), (Qu_firstBranch v), x4, (Qu_held v), (Qu_comparedHeld v))))) : Option (T_Qu))) fun J2 => (if a1 = (0 : Int32) then (J2 (0 : Int32)) else (J2 (1 : Int32))))
abbrev rm_Qu_addBranch : Room := { frames := 0, cells := 0, slots := 0, locals := 0 }
set_option maxRecDepth 100000 in
set_option maxHeartbeats 4000000 in
theorem m_Qu_addBranch (l : Launch) (D : va_G) (K : Nat → ClassId) (q : Nat → Nat) (v : T_Qu) (a1 : Int32) {o_v : T_Qu} (hf : f_Qu_addBranch v a1 = some o_v) : MV l yX5_addBranch cX5_addBranch 2 (none) rm_Qu_addBranch D K [.ref (q 0), .int a1] (cl_Qu K q v) (cl_Qu K q o_v) := by
  refine MV_of (loc0 := [(0, .ref (q 0)), (1, .int a1)]) (by decide +kernel) rfl (Nat.le_of_ble_eq_true rfl) ?_
  intro p e s m args below meth c A cx
  unfold f_Qu_addBranch at hf
  refine r_ws (ws' := [((q 0), ob 4 [.ref (q 1), .ref (q 2), .ref (q 3), .ref (q 4), .ref (q 5), .ref (q 6), .ref (q 7), .int (Qu_firstLoad v), .int (Qu_loads v), .int (Qu_firstBranch v), .int (Qu_branches v), .int (Qu_held v), .int (Qu_comparedHeld v)]), ((q 1), aI K 8 (Qu_loadAddress v)), ((q 2), aI K 8 (Qu_loadWord v)), ((q 3), aI K 8 (Qu_branch v)), ((q 4), aI K 8 (Qu_heldAddress v)), ((q 5), aI K 8 (Qu_heldWord v)), ((q 6), aI K 8 (Qu_besideAddress v)), ((q 7), aI K 8 (Qu_besideWord v))]) rfl ?_
  refine r_aload_n (pc := 0) cx dX5_addBranch_0 0 rfl ?_
  refine r_get (pc := 1) cx cf_X5 0 2 rfl (by decide) rfl wd_345 dX5_addBranch_1 ?_
  refine r_aload_n (pc := 4) cx dX5_addBranch_4 0 rfl ?_
  refine r_get (pc := 5) cx cf_X5 0 9 rfl (by decide) rfl wd_356 dX5_addBranch_5 ?_
  refine r_aload_n (pc := 8) cx dX5_addBranch_8 0 rfl ?_
  refine r_get (pc := 9) cx cf_X5 0 10 rfl (by decide) rfl wd_357 dX5_addBranch_9 ?_
  refine r_iadd (pc := 12) cx dX5_addBranch_12 ?_
  refine r_bipush (pc := 13) cx dX5_addBranch_13 bp_7 ?_
  refine r_iand (pc := 15) cx dX5_addBranch_15 ?_
  refine r_iload_n (pc := 16) cx dX5_addBranch_16 1 rfl ?_
  obtain ⟨J2, eJ2, hf⟩ := nm_of hf
  have hJ2 : ∀ (y1 : Int32), J2 y1 = some o_v → WW p l e rm_Qu_addBranch s m args below meth c D A 2 0 0 (MQ below (QV D K A (cl_Qu K q o_v)) args s 0 0 A) ([((q 0), ob 4 [.ref (q 1), .ref (q 2), .ref (q 3), .ref (q 4), .ref (q 5), .ref (q 6), .ref (q 7), .int (Qu_firstLoad v), .int (Qu_loads v), .int (Qu_firstBranch v), .int (Qu_branches v), .int (Qu_held v), .int (Qu_comparedHeld v)]), ((q 1), aI K 8 (Qu_loadAddress v)), ((q 2), aI K 8 (Qu_loadWord v)), ((q 3), aI K 8 (Qu_branch v)), ((q 4), aI K 8 (Qu_heldAddress v)), ((q 5), aI K 8 (Qu_heldWord v)), ((q 6), aI K 8 (Qu_besideAddress v)), ((q 7), aI K 8 (Qu_besideWord v))]) ([(0, .ref (q 0))]) ([.int y1, .int (((Qu_firstBranch v) + (Qu_branches v)) &&& (7 : Int32)), .ref (q 3)]) 25 := by
    intro y1 hf
    rw [eJ2] at hf
    obtain ⟨f3, ef3, hf⟩ := nm_of hf
    refine r_iast (pc := 25) (ws' := [((q 0), ob 4 [.ref (q 1), .ref (q 2), .ref (q 3), .ref (q 4), .ref (q 5), .ref (q 6), .ref (q 7), .int (Qu_firstLoad v), .int (Qu_loads v), .int (Qu_firstBranch v), .int (Qu_branches v), .int (Qu_held v), .int (Qu_comparedHeld v)]), ((q 1), aI K 8 (Qu_loadAddress v)), ((q 2), aI K 8 (Qu_loadWord v)), ((q 3), aI K 8 f3), ((q 4), aI K 8 (Qu_heldAddress v)), ((q 5), aI K 8 (Qu_heldWord v)), ((q 6), aI K 8 (Qu_besideAddress v)), ((q 7), aI K 8 (Qu_besideWord v))]) cx 3 rfl (ix_and7 _) dX5_addBranch_25 ef3 rfl ?_
    refine r_aload_n (pc := 26) cx dX5_addBranch_26 0 rfl ?_
    refine r_dup (pc := 27) cx dX5_addBranch_27 rfl ?_
    refine r_get (pc := 28) cx cf_X5 0 10 rfl (by decide) rfl wd_357 dX5_addBranch_28 ?_
    refine r_iconst (pc := 31) cx dX5_addBranch_31 ic_1 ?_
    refine r_iadd (pc := 32) cx dX5_addBranch_32 ?_
    obtain ⟨x4, ex4, hf⟩ := nm_of hf
    refine r_nm ex4 ?_
    refine r_putI (pc := 33) (ws' := [((q 0), ob 4 [.ref (q 1), .ref (q 2), .ref (q 3), .ref (q 4), .ref (q 5), .ref (q 6), .ref (q 7), .int (Qu_firstLoad v), .int (Qu_loads v), .int (Qu_firstBranch v), .int x4, .int (Qu_held v), .int (Qu_comparedHeld v)]), ((q 1), aI K 8 (Qu_loadAddress v)), ((q 2), aI K 8 (Qu_loadWord v)), ((q 3), aI K 8 f3), ((q 4), aI K 8 (Qu_heldAddress v)), ((q 5), aI K 8 (Qu_heldWord v)), ((q 6), aI K 8 (Qu_besideAddress v)), ((q 7), aI K 8 (Qu_besideWord v))]) cx cf_X5 0 10 rfl (by decide) (Nat.le_of_ble_eq_true rfl) rfl pfd_I wd_357 dX5_addBranch_33 rfl ?_
    cases hf
    exact r_vret (pc := 36) cx rfl dX5_addBranch_36
  refine r_if_eq (pc := 17) (tgt := 24) cx dX5_addBranch_17 (by decide) (fun h5 => ?_) (fun h5 => ?_)
  · have hf := ifp h5 hf
    refine r_iconst (pc := 24) cx dX5_addBranch_24 ic_0 ?_
    refine r_loc (loc' := [(0, .ref (q 0))]) [0] rfl ?_
    exact hJ2 _ hf
  · have hf := ifn h5 hf
    refine r_iconst (pc := 20) cx dX5_addBranch_20 ic_1 ?_
    refine r_goto (pc := 21) (tgt := 25) cx dX5_addBranch_21 (by decide) ?_
    refine r_loc (loc' := [(0, .ref (q 0))]) [0] rfl ?_
    exact hJ2 _ hf
theorem yv_X5_addBranch : YV yX5_addBranch cX5_addBranch 2 (none) 1 := ⟨⟨by decide +kernel, by decide +kernel, by decide +kernel⟩, wd_883, wd_97, wd_881, wd_882⟩
def f_Qu_firstBranchGoes (v : T_Qu) : Option (Int32) :=
  (if ((Qu_branch v) (((Qu_firstBranch v) &&& (7 : Int32))).toNatClampNeg) = (1 : Int32) then (some (1 : Int32)) else (some (0 : Int32)))
abbrev rm_Qu_firstBranchGoes : Room := { frames := 0, cells := 0, slots := 0, locals := 0 }
set_option maxRecDepth 100000 in
set_option maxHeartbeats 4000000 in
theorem m_Qu_firstBranchGoes (l : Launch) (D : va_G) (K : Nat → ClassId) (q : Nat → Nat) (v : T_Qu) {r_ : Int32} (hf : f_Qu_firstBranchGoes v = some r_) : MI l yX5_firstBranchGoes cX5_firstBranchGoes 1 (some .boolean) rm_Qu_firstBranchGoes D K [.ref (q 0)] (cl_Qu K q v) r_ (cl_Qu K q v) := by
  refine MI_of (loc0 := [(0, .ref (q 0))]) (by decide +kernel) rfl (Nat.le_of_ble_eq_true rfl) ?_
  intro p e s m args below meth c A cx
  unfold f_Qu_firstBranchGoes at hf
  refine r_ws (ws' := [((q 0), ob 4 [.ref (q 1), .ref (q 2), .ref (q 3), .ref (q 4), .ref (q 5), .ref (q 6), .ref (q 7), .int (Qu_firstLoad v), .int (Qu_loads v), .int (Qu_firstBranch v), .int (Qu_branches v), .int (Qu_held v), .int (Qu_comparedHeld v)]), ((q 1), aI K 8 (Qu_loadAddress v)), ((q 2), aI K 8 (Qu_loadWord v)), ((q 3), aI K 8 (Qu_branch v)), ((q 4), aI K 8 (Qu_heldAddress v)), ((q 5), aI K 8 (Qu_heldWord v)), ((q 6), aI K 8 (Qu_besideAddress v)), ((q 7), aI K 8 (Qu_besideWord v))]) rfl ?_
  refine r_aload_n (pc := 0) cx dX5_firstBranchGoes_0 0 rfl ?_
  refine r_get (pc := 1) cx cf_X5 0 2 rfl (by decide) rfl wd_345 dX5_firstBranchGoes_1 ?_
  refine r_aload_n (pc := 4) cx dX5_firstBranchGoes_4 0 rfl ?_
  refine r_get (pc := 5) cx cf_X5 0 9 rfl (by decide) rfl wd_356 dX5_firstBranchGoes_5 ?_
  refine r_bipush (pc := 8) cx dX5_firstBranchGoes_8 bp_7 ?_
  refine r_iand (pc := 10) cx dX5_firstBranchGoes_10 ?_
  refine r_iald (pc := 11) cx 3 rfl (ix_and7 _) dX5_firstBranchGoes_11 ?_
  refine r_iconst (pc := 12) cx dX5_firstBranchGoes_12 ic_1 ?_
  refine r_icmp_ne (pc := 13) (tgt := 20) cx dX5_firstBranchGoes_13 (by decide) (fun h1 => ?_) (fun h1 => ?_)
  · have hf := ifn h1 hf
    refine r_iconst (pc := 20) cx dX5_firstBranchGoes_20 ic_0 ?_
    cases hf
    exact r_zret (pc := 21) cx (Or.inl rfl) rfl rfl dX5_firstBranchGoes_21
  · have hf := ifp h1 hf
    refine r_iconst (pc := 16) cx dX5_firstBranchGoes_16 ic_1 ?_
    refine r_goto (pc := 17) (tgt := 21) cx dX5_firstBranchGoes_17 (by decide) ?_
    cases hf
    exact r_zret (pc := 21) cx (Or.inr rfl) rfl rfl dX5_firstBranchGoes_21
theorem yv_X5_firstBranchGoes : YV yX5_firstBranchGoes cX5_firstBranchGoes 1 (some .boolean) 0 := ⟨⟨by decide +kernel, by decide +kernel, by decide +kernel⟩, wd_745, wd_97, wd_743, wd_744⟩
def f_Qu_removeBranch (v : T_Qu) : Option (T_Qu) :=
  (nm (((Qu_firstBranch v) + (1 : Int32)) &&& (7 : Int32)) fun (x1 : Int32) => (nm ((Qu_branches v) - (1 : Int32)) fun (x2 : Int32) => (some ((Qu_loadAddress v), (Qu_loadWord v), (Qu_branch v), (Qu_heldAddress v), (Qu_heldWord v), (Qu_besideAddress v), (Qu_besideWord v), (Qu_firstLoad v), (Qu_loads v), x1, x2, (Qu_held v), (Qu_comparedHeld v)))))
abbrev rm_Qu_removeBranch : Room := { frames := 0, cells := 0, slots := 0, locals := 0 }
set_option maxRecDepth 100000 in
set_option maxHeartbeats 4000000 in
theorem m_Qu_removeBranch (l : Launch) (D : va_G) (K : Nat → ClassId) (q : Nat → Nat) (v : T_Qu) {o_v : T_Qu} (hf : f_Qu_removeBranch v = some o_v) : MV l yX5_removeBranch cX5_removeBranch 1 (none) rm_Qu_removeBranch D K [.ref (q 0)] (cl_Qu K q v) (cl_Qu K q o_v) := by
  refine MV_of (loc0 := [(0, .ref (q 0))]) (by decide +kernel) rfl (Nat.le_of_ble_eq_true rfl) ?_
  intro p e s m args below meth c A cx
  unfold f_Qu_removeBranch at hf
  refine r_ws (ws' := [((q 0), ob 4 [.ref (q 1), .ref (q 2), .ref (q 3), .ref (q 4), .ref (q 5), .ref (q 6), .ref (q 7), .int (Qu_firstLoad v), .int (Qu_loads v), .int (Qu_firstBranch v), .int (Qu_branches v), .int (Qu_held v), .int (Qu_comparedHeld v)]), ((q 1), aI K 8 (Qu_loadAddress v)), ((q 2), aI K 8 (Qu_loadWord v)), ((q 3), aI K 8 (Qu_branch v)), ((q 4), aI K 8 (Qu_heldAddress v)), ((q 5), aI K 8 (Qu_heldWord v)), ((q 6), aI K 8 (Qu_besideAddress v)), ((q 7), aI K 8 (Qu_besideWord v))]) rfl ?_
  refine r_aload_n (pc := 0) cx dX5_removeBranch_0 0 rfl ?_
  refine r_aload_n (pc := 1) cx dX5_removeBranch_1 0 rfl ?_
  refine r_get (pc := 2) cx cf_X5 0 9 rfl (by decide) rfl wd_356 dX5_removeBranch_2 ?_
  refine r_iconst (pc := 5) cx dX5_removeBranch_5 ic_1 ?_
  refine r_iadd (pc := 6) cx dX5_removeBranch_6 ?_
  refine r_bipush (pc := 7) cx dX5_removeBranch_7 bp_7 ?_
  refine r_iand (pc := 9) cx dX5_removeBranch_9 ?_
  obtain ⟨x1, ex1, hf⟩ := nm_of hf
  refine r_nm ex1 ?_
  refine r_putI (pc := 10) (ws' := [((q 0), ob 4 [.ref (q 1), .ref (q 2), .ref (q 3), .ref (q 4), .ref (q 5), .ref (q 6), .ref (q 7), .int (Qu_firstLoad v), .int (Qu_loads v), .int x1, .int (Qu_branches v), .int (Qu_held v), .int (Qu_comparedHeld v)]), ((q 1), aI K 8 (Qu_loadAddress v)), ((q 2), aI K 8 (Qu_loadWord v)), ((q 3), aI K 8 (Qu_branch v)), ((q 4), aI K 8 (Qu_heldAddress v)), ((q 5), aI K 8 (Qu_heldWord v)), ((q 6), aI K 8 (Qu_besideAddress v)), ((q 7), aI K 8 (Qu_besideWord v))]) cx cf_X5 0 9 rfl (by decide) (Nat.le_of_ble_eq_true rfl) rfl pfd_I wd_356 dX5_removeBranch_10 rfl ?_
  refine r_aload_n (pc := 13) cx dX5_removeBranch_13 0 rfl ?_
  refine r_dup (pc := 14) cx dX5_removeBranch_14 rfl ?_
  refine r_get (pc := 15) cx cf_X5 0 10 rfl (by decide) rfl wd_357 dX5_removeBranch_15 ?_
  refine r_iconst (pc := 18) cx dX5_removeBranch_18 ic_1 ?_
  refine r_isub (pc := 19) cx dX5_removeBranch_19 ?_
  obtain ⟨x2, ex2, hf⟩ := nm_of hf
  refine r_nm ex2 ?_
  refine r_putI (pc := 20) (ws' := [((q 0), ob 4 [.ref (q 1), .ref (q 2), .ref (q 3), .ref (q 4), .ref (q 5), .ref (q 6), .ref (q 7), .int (Qu_firstLoad v), .int (Qu_loads v), .int x1, .int x2, .int (Qu_held v), .int (Qu_comparedHeld v)]), ((q 1), aI K 8 (Qu_loadAddress v)), ((q 2), aI K 8 (Qu_loadWord v)), ((q 3), aI K 8 (Qu_branch v)), ((q 4), aI K 8 (Qu_heldAddress v)), ((q 5), aI K 8 (Qu_heldWord v)), ((q 6), aI K 8 (Qu_besideAddress v)), ((q 7), aI K 8 (Qu_besideWord v))]) cx cf_X5 0 10 rfl (by decide) (Nat.le_of_ble_eq_true rfl) rfl pfd_I wd_357 dX5_removeBranch_20 rfl ?_
  cases hf
  exact r_vret (pc := 23) cx rfl dX5_removeBranch_23
theorem yv_X5_removeBranch : YV yX5_removeBranch cX5_removeBranch 1 (none) 0 := ⟨⟨by decide +kernel, by decide +kernel, by decide +kernel⟩, wd_808, wd_97, wd_806, wd_807⟩
def f_Qu_hold (v : T_Qu) (a1 : Int32) (a2 : Int32) : Option (T_Qu) :=
  (nm (upd (Qu_heldAddress v) (((Qu_held v) &&& (7 : Int32))).toNatClampNeg a1) fun (f1 : Nat → Int32) => (nm (upd (Qu_heldWord v) (((Qu_held v) &&& (7 : Int32))).toNatClampNeg a2) fun (f2 : Nat → Int32) => (nm ((Qu_held v) + (1 : Int32)) fun (x3 : Int32) => (some ((Qu_loadAddress v), (Qu_loadWord v), (Qu_branch v), f1, f2, (Qu_besideAddress v), (Qu_besideWord v), (Qu_firstLoad v), (Qu_loads v), (Qu_firstBranch v), (Qu_branches v), x3, (Qu_comparedHeld v))))))
abbrev rm_Qu_hold : Room := { frames := 0, cells := 0, slots := 0, locals := 0 }
set_option maxRecDepth 100000 in
set_option maxHeartbeats 4000000 in
theorem m_Qu_hold (l : Launch) (D : va_G) (K : Nat → ClassId) (q : Nat → Nat) (v : T_Qu) (a1 : Int32) (a2 : Int32) {o_v : T_Qu} (hf : f_Qu_hold v a1 a2 = some o_v) : MV l yX5_hold cX5_hold 3 (none) rm_Qu_hold D K [.ref (q 0), .int a1, .int a2] (cl_Qu K q v) (cl_Qu K q o_v) := by
  refine MV_of (loc0 := [(0, .ref (q 0)), (1, .int a1), (2, .int a2)]) (by decide +kernel) rfl (Nat.le_of_ble_eq_true rfl) ?_
  intro p e s m args below meth c A cx
  unfold f_Qu_hold at hf
  refine r_ws (ws' := [((q 0), ob 4 [.ref (q 1), .ref (q 2), .ref (q 3), .ref (q 4), .ref (q 5), .ref (q 6), .ref (q 7), .int (Qu_firstLoad v), .int (Qu_loads v), .int (Qu_firstBranch v), .int (Qu_branches v), .int (Qu_held v), .int (Qu_comparedHeld v)]), ((q 1), aI K 8 (Qu_loadAddress v)), ((q 2), aI K 8 (Qu_loadWord v)), ((q 3), aI K 8 (Qu_branch v)), ((q 4), aI K 8 (Qu_heldAddress v)), ((q 5), aI K 8 (Qu_heldWord v)), ((q 6), aI K 8 (Qu_besideAddress v)), ((q 7), aI K 8 (Qu_besideWord v))]) rfl ?_
  refine r_aload_n (pc := 0) cx dX5_hold_0 0 rfl ?_
  refine r_get (pc := 1) cx cf_X5 0 3 rfl (by decide) rfl wd_346 dX5_hold_1 ?_
  refine r_aload_n (pc := 4) cx dX5_hold_4 0 rfl ?_
  refine r_get (pc := 5) cx cf_X5 0 11 rfl (by decide) rfl wd_360 dX5_hold_5 ?_
  refine r_bipush (pc := 8) cx dX5_hold_8 bp_7 ?_
  refine r_iand (pc := 10) cx dX5_hold_10 ?_
  refine r_iload_n (pc := 11) cx dX5_hold_11 1 rfl ?_
  obtain ⟨f1, ef1, hf⟩ := nm_of hf
  refine r_iast (pc := 12) (ws' := [((q 0), ob 4 [.ref (q 1), .ref (q 2), .ref (q 3), .ref (q 4), .ref (q 5), .ref (q 6), .ref (q 7), .int (Qu_firstLoad v), .int (Qu_loads v), .int (Qu_firstBranch v), .int (Qu_branches v), .int (Qu_held v), .int (Qu_comparedHeld v)]), ((q 1), aI K 8 (Qu_loadAddress v)), ((q 2), aI K 8 (Qu_loadWord v)), ((q 3), aI K 8 (Qu_branch v)), ((q 4), aI K 8 f1), ((q 5), aI K 8 (Qu_heldWord v)), ((q 6), aI K 8 (Qu_besideAddress v)), ((q 7), aI K 8 (Qu_besideWord v))]) cx 4 rfl (ix_and7 _) dX5_hold_12 ef1 rfl ?_
  refine r_aload_n (pc := 13) cx dX5_hold_13 0 rfl ?_
  refine r_get (pc := 14) cx cf_X5 0 4 rfl (by decide) rfl wd_348 dX5_hold_14 ?_
  refine r_aload_n (pc := 17) cx dX5_hold_17 0 rfl ?_
  refine r_get (pc := 18) cx cf_X5 0 11 rfl (by decide) rfl wd_360 dX5_hold_18 ?_
  refine r_bipush (pc := 21) cx dX5_hold_21 bp_7 ?_
  refine r_iand (pc := 23) cx dX5_hold_23 ?_
  refine r_iload_n (pc := 24) cx dX5_hold_24 2 rfl ?_
  obtain ⟨f2, ef2, hf⟩ := nm_of hf
  refine r_iast (pc := 25) (ws' := [((q 0), ob 4 [.ref (q 1), .ref (q 2), .ref (q 3), .ref (q 4), .ref (q 5), .ref (q 6), .ref (q 7), .int (Qu_firstLoad v), .int (Qu_loads v), .int (Qu_firstBranch v), .int (Qu_branches v), .int (Qu_held v), .int (Qu_comparedHeld v)]), ((q 1), aI K 8 (Qu_loadAddress v)), ((q 2), aI K 8 (Qu_loadWord v)), ((q 3), aI K 8 (Qu_branch v)), ((q 4), aI K 8 f1), ((q 5), aI K 8 f2), ((q 6), aI K 8 (Qu_besideAddress v)), ((q 7), aI K 8 (Qu_besideWord v))]) cx 5 rfl (ix_and7 _) dX5_hold_25 ef2 rfl ?_
  refine r_aload_n (pc := 26) cx dX5_hold_26 0 rfl ?_
  refine r_dup (pc := 27) cx dX5_hold_27 rfl ?_
  refine r_get (pc := 28) cx cf_X5 0 11 rfl (by decide) rfl wd_360 dX5_hold_28 ?_
  refine r_iconst (pc := 31) cx dX5_hold_31 ic_1 ?_
  refine r_iadd (pc := 32) cx dX5_hold_32 ?_
  obtain ⟨x3, ex3, hf⟩ := nm_of hf
  refine r_nm ex3 ?_
  refine r_putI (pc := 33) (ws' := [((q 0), ob 4 [.ref (q 1), .ref (q 2), .ref (q 3), .ref (q 4), .ref (q 5), .ref (q 6), .ref (q 7), .int (Qu_firstLoad v), .int (Qu_loads v), .int (Qu_firstBranch v), .int (Qu_branches v), .int x3, .int (Qu_comparedHeld v)]), ((q 1), aI K 8 (Qu_loadAddress v)), ((q 2), aI K 8 (Qu_loadWord v)), ((q 3), aI K 8 (Qu_branch v)), ((q 4), aI K 8 f1), ((q 5), aI K 8 f2), ((q 6), aI K 8 (Qu_besideAddress v)), ((q 7), aI K 8 (Qu_besideWord v))]) cx cf_X5 0 11 rfl (by decide) (Nat.le_of_ble_eq_true rfl) rfl pfd_I wd_360 dX5_hold_33 rfl ?_
  cases hf
  exact r_vret (pc := 36) cx rfl dX5_hold_36
theorem yv_X5_hold : YV yX5_hold cX5_hold 3 (none) 2 := ⟨⟨by decide +kernel, by decide +kernel, by decide +kernel⟩, wd_887, wd_97, wd_885, wd_886⟩
def f_Qu_isHeld (v : T_Qu) (a1 : Int32) (a2 : Int32) : Option (Int32) :=
  (if ((Qu_heldAddress v) (((Qu_comparedHeld v) &&& (7 : Int32))).toNatClampNeg) = a1 then (if ((Qu_heldWord v) (((Qu_comparedHeld v) &&& (7 : Int32))).toNatClampNeg) = a2 then (some (1 : Int32)) else (some (0 : Int32))) else (some (0 : Int32)))
abbrev rm_Qu_isHeld : Room := { frames := 0, cells := 0, slots := 0, locals := 0 }
set_option maxRecDepth 100000 in
set_option maxHeartbeats 4000000 in
theorem m_Qu_isHeld (l : Launch) (D : va_G) (K : Nat → ClassId) (q : Nat → Nat) (v : T_Qu) (a1 : Int32) (a2 : Int32) {r_ : Int32} (hf : f_Qu_isHeld v a1 a2 = some r_) : MI l yX5_isHeld cX5_isHeld 3 (some .boolean) rm_Qu_isHeld D K [.ref (q 0), .int a1, .int a2] (cl_Qu K q v) r_ (cl_Qu K q v) := by
  refine MI_of (loc0 := [(0, .ref (q 0)), (1, .int a1), (2, .int a2)]) (by decide +kernel) rfl (Nat.le_of_ble_eq_true rfl) ?_
  intro p e s m args below meth c A cx
  unfold f_Qu_isHeld at hf
  refine r_ws (ws' := [((q 0), ob 4 [.ref (q 1), .ref (q 2), .ref (q 3), .ref (q 4), .ref (q 5), .ref (q 6), .ref (q 7), .int (Qu_firstLoad v), .int (Qu_loads v), .int (Qu_firstBranch v), .int (Qu_branches v), .int (Qu_held v), .int (Qu_comparedHeld v)]), ((q 1), aI K 8 (Qu_loadAddress v)), ((q 2), aI K 8 (Qu_loadWord v)), ((q 3), aI K 8 (Qu_branch v)), ((q 4), aI K 8 (Qu_heldAddress v)), ((q 5), aI K 8 (Qu_heldWord v)), ((q 6), aI K 8 (Qu_besideAddress v)), ((q 7), aI K 8 (Qu_besideWord v))]) rfl ?_
  refine r_aload_n (pc := 0) cx dX5_isHeld_0 0 rfl ?_
  refine r_get (pc := 1) cx cf_X5 0 3 rfl (by decide) rfl wd_346 dX5_isHeld_1 ?_
  refine r_aload_n (pc := 4) cx dX5_isHeld_4 0 rfl ?_
  refine r_get (pc := 5) cx cf_X5 0 12 rfl (by decide) rfl wd_363 dX5_isHeld_5 ?_
  refine r_bipush (pc := 8) cx dX5_isHeld_8 bp_7 ?_
  refine r_iand (pc := 10) cx dX5_isHeld_10 ?_
  refine r_iald (pc := 11) cx 4 rfl (ix_and7 _) dX5_isHeld_11 ?_
  refine r_iload_n (pc := 12) cx dX5_isHeld_12 1 rfl ?_
  refine r_icmp_ne (pc := 13) (tgt := 36) cx dX5_isHeld_13 (by decide) (fun h1 => ?_) (fun h1 => ?_)
  · have hf := ifn h1 hf
    refine r_iconst (pc := 36) cx dX5_isHeld_36 ic_0 ?_
    cases hf
    exact r_zret (pc := 37) cx (Or.inl rfl) rfl rfl dX5_isHeld_37
  · have hf := ifp h1 hf
    refine r_aload_n (pc := 16) cx dX5_isHeld_16 0 rfl ?_
    refine r_get (pc := 17) cx cf_X5 0 4 rfl (by decide) rfl wd_348 dX5_isHeld_17 ?_
    refine r_aload_n (pc := 20) cx dX5_isHeld_20 0 rfl ?_
    refine r_get (pc := 21) cx cf_X5 0 12 rfl (by decide) rfl wd_363 dX5_isHeld_21 ?_
    refine r_bipush (pc := 24) cx dX5_isHeld_24 bp_7 ?_
    refine r_iand (pc := 26) cx dX5_isHeld_26 ?_
    refine r_iald (pc := 27) cx 5 rfl (ix_and7 _) dX5_isHeld_27 ?_
    refine r_iload_n (pc := 28) cx dX5_isHeld_28 2 rfl ?_
    refine r_icmp_ne (pc := 29) (tgt := 36) cx dX5_isHeld_29 (by decide) (fun h2 => ?_) (fun h2 => ?_)
    · have hf := ifn h2 hf
      refine r_iconst (pc := 36) cx dX5_isHeld_36 ic_0 ?_
      cases hf
      exact r_zret (pc := 37) cx (Or.inl rfl) rfl rfl dX5_isHeld_37
    · have hf := ifp h2 hf
      refine r_iconst (pc := 32) cx dX5_isHeld_32 ic_1 ?_
      refine r_goto (pc := 33) (tgt := 37) cx dX5_isHeld_33 (by decide) ?_
      cases hf
      exact r_zret (pc := 37) cx (Or.inr rfl) rfl rfl dX5_isHeld_37
theorem yv_X5_isHeld : YV yX5_isHeld cX5_isHeld 3 (some .boolean) 2 := ⟨⟨by decide +kernel, by decide +kernel, by decide +kernel⟩, wd_768, wd_97, wd_766, wd_767⟩
def f_Qu_layBeside (v : T_Qu) (a1 : Int32) (a2 : Int32) : Option (T_Qu) :=
  (nm (upd (Qu_besideAddress v) (((Qu_comparedHeld v) &&& (7 : Int32))).toNatClampNeg a1) fun (f1 : Nat → Int32) => (nm (upd (Qu_besideWord v) (((Qu_comparedHeld v) &&& (7 : Int32))).toNatClampNeg a2) fun (f2 : Nat → Int32) => (nm ((Qu_comparedHeld v) + (1 : Int32)) fun (x3 : Int32) => (some ((Qu_loadAddress v), (Qu_loadWord v), (Qu_branch v), (Qu_heldAddress v), (Qu_heldWord v), f1, f2, (Qu_firstLoad v), (Qu_loads v), (Qu_firstBranch v), (Qu_branches v), (Qu_held v), x3)))))
abbrev rm_Qu_layBeside : Room := { frames := 0, cells := 0, slots := 0, locals := 0 }
set_option maxRecDepth 100000 in
set_option maxHeartbeats 4000000 in
theorem m_Qu_layBeside (l : Launch) (D : va_G) (K : Nat → ClassId) (q : Nat → Nat) (v : T_Qu) (a1 : Int32) (a2 : Int32) {o_v : T_Qu} (hf : f_Qu_layBeside v a1 a2 = some o_v) : MV l yX5_layBeside cX5_layBeside 3 (none) rm_Qu_layBeside D K [.ref (q 0), .int a1, .int a2] (cl_Qu K q v) (cl_Qu K q o_v) := by
  refine MV_of (loc0 := [(0, .ref (q 0)), (1, .int a1), (2, .int a2)]) (by decide +kernel) rfl (Nat.le_of_ble_eq_true rfl) ?_
  intro p e s m args below meth c A cx
  unfold f_Qu_layBeside at hf
  refine r_ws (ws' := [((q 0), ob 4 [.ref (q 1), .ref (q 2), .ref (q 3), .ref (q 4), .ref (q 5), .ref (q 6), .ref (q 7), .int (Qu_firstLoad v), .int (Qu_loads v), .int (Qu_firstBranch v), .int (Qu_branches v), .int (Qu_held v), .int (Qu_comparedHeld v)]), ((q 1), aI K 8 (Qu_loadAddress v)), ((q 2), aI K 8 (Qu_loadWord v)), ((q 3), aI K 8 (Qu_branch v)), ((q 4), aI K 8 (Qu_heldAddress v)), ((q 5), aI K 8 (Qu_heldWord v)), ((q 6), aI K 8 (Qu_besideAddress v)), ((q 7), aI K 8 (Qu_besideWord v))]) rfl ?_
  refine r_aload_n (pc := 0) cx dX5_layBeside_0 0 rfl ?_
  refine r_get (pc := 1) cx cf_X5 0 5 rfl (by decide) rfl wd_350 dX5_layBeside_1 ?_
  refine r_aload_n (pc := 4) cx dX5_layBeside_4 0 rfl ?_
  refine r_get (pc := 5) cx cf_X5 0 12 rfl (by decide) rfl wd_363 dX5_layBeside_5 ?_
  refine r_bipush (pc := 8) cx dX5_layBeside_8 bp_7 ?_
  refine r_iand (pc := 10) cx dX5_layBeside_10 ?_
  refine r_iload_n (pc := 11) cx dX5_layBeside_11 1 rfl ?_
  obtain ⟨f1, ef1, hf⟩ := nm_of hf
  refine r_iast (pc := 12) (ws' := [((q 0), ob 4 [.ref (q 1), .ref (q 2), .ref (q 3), .ref (q 4), .ref (q 5), .ref (q 6), .ref (q 7), .int (Qu_firstLoad v), .int (Qu_loads v), .int (Qu_firstBranch v), .int (Qu_branches v), .int (Qu_held v), .int (Qu_comparedHeld v)]), ((q 1), aI K 8 (Qu_loadAddress v)), ((q 2), aI K 8 (Qu_loadWord v)), ((q 3), aI K 8 (Qu_branch v)), ((q 4), aI K 8 (Qu_heldAddress v)), ((q 5), aI K 8 (Qu_heldWord v)), ((q 6), aI K 8 f1), ((q 7), aI K 8 (Qu_besideWord v))]) cx 6 rfl (ix_and7 _) dX5_layBeside_12 ef1 rfl ?_
  refine r_aload_n (pc := 13) cx dX5_layBeside_13 0 rfl ?_
  refine r_get (pc := 14) cx cf_X5 0 6 rfl (by decide) rfl wd_351 dX5_layBeside_14 ?_
  refine r_aload_n (pc := 17) cx dX5_layBeside_17 0 rfl ?_
  refine r_get (pc := 18) cx cf_X5 0 12 rfl (by decide) rfl wd_363 dX5_layBeside_18 ?_
  refine r_bipush (pc := 21) cx dX5_layBeside_21 bp_7 ?_
  refine r_iand (pc := 23) cx dX5_layBeside_23 ?_
  refine r_iload_n (pc := 24) cx dX5_layBeside_24 2 rfl ?_
  obtain ⟨f2, ef2, hf⟩ := nm_of hf
  refine r_iast (pc := 25) (ws' := [((q 0), ob 4 [.ref (q 1), .ref (q 2), .ref (q 3), .ref (q 4), .ref (q 5), .ref (q 6), .ref (q 7), .int (Qu_firstLoad v), .int (Qu_loads v), .int (Qu_firstBranch v), .int (Qu_branches v), .int (Qu_held v), .int (Qu_comparedHeld v)]), ((q 1), aI K 8 (Qu_loadAddress v)), ((q 2), aI K 8 (Qu_loadWord v)), ((q 3), aI K 8 (Qu_branch v)), ((q 4), aI K 8 (Qu_heldAddress v)), ((q 5), aI K 8 (Qu_heldWord v)), ((q 6), aI K 8 f1), ((q 7), aI K 8 f2)]) cx 7 rfl (ix_and7 _) dX5_layBeside_25 ef2 rfl ?_
  refine r_aload_n (pc := 26) cx dX5_layBeside_26 0 rfl ?_
  refine r_dup (pc := 27) cx dX5_layBeside_27 rfl ?_
  refine r_get (pc := 28) cx cf_X5 0 12 rfl (by decide) rfl wd_363 dX5_layBeside_28 ?_
  refine r_iconst (pc := 31) cx dX5_layBeside_31 ic_1 ?_
  refine r_iadd (pc := 32) cx dX5_layBeside_32 ?_
  obtain ⟨x3, ex3, hf⟩ := nm_of hf
  refine r_nm ex3 ?_
  refine r_putI (pc := 33) (ws' := [((q 0), ob 4 [.ref (q 1), .ref (q 2), .ref (q 3), .ref (q 4), .ref (q 5), .ref (q 6), .ref (q 7), .int (Qu_firstLoad v), .int (Qu_loads v), .int (Qu_firstBranch v), .int (Qu_branches v), .int (Qu_held v), .int x3]), ((q 1), aI K 8 (Qu_loadAddress v)), ((q 2), aI K 8 (Qu_loadWord v)), ((q 3), aI K 8 (Qu_branch v)), ((q 4), aI K 8 (Qu_heldAddress v)), ((q 5), aI K 8 (Qu_heldWord v)), ((q 6), aI K 8 f1), ((q 7), aI K 8 f2)]) cx cf_X5 0 12 rfl (by decide) (Nat.le_of_ble_eq_true rfl) rfl pfd_I wd_363 dX5_layBeside_33 rfl ?_
  cases hf
  exact r_vret (pc := 36) cx rfl dX5_layBeside_36
theorem yv_X5_layBeside : YV yX5_layBeside cX5_layBeside 3 (none) 2 := ⟨⟨by decide +kernel, by decide +kernel, by decide +kernel⟩, wd_816, wd_97, wd_814, wd_815⟩
def f_Qu_lastHeld_L12 (v : T_Qu) (a1 : Int32) (k12_26 : Int32 → Option (Int32)) (k12_34 : Option (Int32)) : Nat → Int32 → Option (Int32)
  | 0, _ => none
  | n12 + 1, x3 =>
    (if x3 < (0 : Int32) then (k12_34) else (if ix x3 8 then (if ((Qu_heldAddress v) x3.toNatClampNeg) = a1 then (k12_26 x3) else (nm (x3 + (-1 : Int32)) fun (x8 : Int32) => (f_Qu_lastHeld_L12 v a1 k12_26 k12_34 n12 x8))) else none))
def f_Qu_lastHeld (v : T_Qu) (a1 : Int32) : Option (Int32) :=
  (nm (if (8 : Int32) < (Qu_held v) then (8 : Int32) else (Qu_held v)) fun (x1 : Int32) => (nm (x1 - (1 : Int32)) fun (x2 : Int32) => (f_Qu_lastHeld_L12 v a1 (fun (x4 : Int32) => (some x4)) (some (-1 : Int32)) LF x2)))
abbrev rm_Qu_lastHeld : Room := { frames := 1, cells := 0, slots := 0, locals := 23 }
set_option maxRecDepth 100000 in
set_option maxHeartbeats 4000000 in
theorem m_Qu_lastHeld (l : Launch) (D : va_G) (K : Nat → ClassId) (q : Nat → Nat) (v : T_Qu) (a1 : Int32) {r_ : Int32} (hf : f_Qu_lastHeld v a1 = some r_) : MI l yX5_lastHeld cX5_lastHeld 3 (some .int) rm_Qu_lastHeld D K [.ref (q 0), .int a1] (cl_Qu K q v) r_ (cl_Qu K q v) := by
  refine MI_of (loc0 := [(0, .ref (q 0)), (1, .int a1)]) (by decide +kernel) rfl (Nat.le_of_ble_eq_true rfl) ?_
  intro p e s m args below meth c A cx
  unfold f_Qu_lastHeld at hf
  refine r_ws (ws' := [((q 0), ob 4 [.ref (q 1), .ref (q 2), .ref (q 3), .ref (q 4), .ref (q 5), .ref (q 6), .ref (q 7), .int (Qu_firstLoad v), .int (Qu_loads v), .int (Qu_firstBranch v), .int (Qu_branches v), .int (Qu_held v), .int (Qu_comparedHeld v)]), ((q 1), aI K 8 (Qu_loadAddress v)), ((q 2), aI K 8 (Qu_loadWord v)), ((q 3), aI K 8 (Qu_branch v)), ((q 4), aI K 8 (Qu_heldAddress v)), ((q 5), aI K 8 (Qu_heldWord v)), ((q 6), aI K 8 (Qu_besideAddress v)), ((q 7), aI K 8 (Qu_besideWord v))]) rfl ?_
  refine r_aload_n (pc := 0) cx dX5_lastHeld_0 0 rfl ?_
  refine r_get (pc := 1) cx cf_X5 0 11 rfl (by decide) rfl wd_360 dX5_lastHeld_1 ?_
  refine r_bipush (pc := 4) cx dX5_lastHeld_4 bp_8 ?_
  refine r_mmin (pc := 6) cx wd_875 ys_J9_min_7cf53 (by decide) (Nat.le_of_ble_eq_true rfl) dX5_lastHeld_6 ?_
  obtain ⟨x1, ex1, hf⟩ := nm_of hf
  refine r_nm ex1 ?_
  refine r_iconst (pc := 9) cx dX5_lastHeld_9 ic_1 ?_
  refine r_isub (pc := 10) cx dX5_lastHeld_10 ?_
  obtain ⟨x2, ex2, hf⟩ := nm_of hf
  refine r_nm ex2 ?_
  refine r_istore_n (pc := 11) (loc' := [(2, .int x2), (0, .ref (q 0)), (1, .int a1)]) cx dX5_lastHeld_11 rfl (by decide) rfl ?_
  have hL12 : ∀ (k12_26 : Int32 → Option (Int32)) (k12_34 : Option (Int32)), (∀ (x4 : Int32), k12_26 x4 = some r_ → WW p l e rm_Qu_lastHeld s m args below meth c D A 3 0 0 (MQ below (QI D K A r_ (cl_Qu K q v)) args s 0 0 A) ([((q 0), ob 4 [.ref (q 1), .ref (q 2), .ref (q 3), .ref (q 4), .ref (q 5), .ref (q 6), .ref (q 7), .int (Qu_firstLoad v), .int (Qu_loads v), .int (Qu_firstBranch v), .int (Qu_branches v), .int (Qu_held v), .int (Qu_comparedHeld v)]), ((q 1), aI K 8 (Qu_loadAddress v)), ((q 2), aI K 8 (Qu_loadWord v)), ((q 3), aI K 8 (Qu_branch v)), ((q 4), aI K 8 (Qu_heldAddress v)), ((q 5), aI K 8 (Qu_heldWord v)), ((q 6), aI K 8 (Qu_besideAddress v)), ((q 7), aI K 8 (Qu_besideWord v))]) ([(2, .int x4)]) ([]) 26) → (k12_34 = some r_ → WW p l e rm_Qu_lastHeld s m args below meth c D A 3 0 0 (MQ below (QI D K A r_ (cl_Qu K q v)) args s 0 0 A) ([((q 0), ob 4 [.ref (q 1), .ref (q 2), .ref (q 3), .ref (q 4), .ref (q 5), .ref (q 6), .ref (q 7), .int (Qu_firstLoad v), .int (Qu_loads v), .int (Qu_firstBranch v), .int (Qu_branches v), .int (Qu_held v), .int (Qu_comparedHeld v)]), ((q 1), aI K 8 (Qu_loadAddress v)), ((q 2), aI K 8 (Qu_loadWord v)), ((q 3), aI K 8 (Qu_branch v)), ((q 4), aI K 8 (Qu_heldAddress v)), ((q 5), aI K 8 (Qu_heldWord v)), ((q 6), aI K 8 (Qu_besideAddress v)), ((q 7), aI K 8 (Qu_besideWord v))]) ([]) ([]) 34) → ∀ (n12 : Nat) (x3 : Int32), f_Qu_lastHeld_L12 v a1 k12_26 k12_34 n12 x3 = some r_ → WW p l e rm_Qu_lastHeld s m args below meth c D A 3 0 0 (MQ below (QI D K A r_ (cl_Qu K q v)) args s 0 0 A) ([((q 0), ob 4 [.ref (q 1), .ref (q 2), .ref (q 3), .ref (q 4), .ref (q 5), .ref (q 6), .ref (q 7), .int (Qu_firstLoad v), .int (Qu_loads v), .int (Qu_firstBranch v), .int (Qu_branches v), .int (Qu_held v), .int (Qu_comparedHeld v)]), ((q 1), aI K 8 (Qu_loadAddress v)), ((q 2), aI K 8 (Qu_loadWord v)), ((q 3), aI K 8 (Qu_branch v)), ((q 4), aI K 8 (Qu_heldAddress v)), ((q 5), aI K 8 (Qu_heldWord v)), ((q 6), aI K 8 (Qu_besideAddress v)), ((q 7), aI K 8 (Qu_besideWord v))]) ([(0, .ref (q 0)), (1, .int a1), (2, .int x3)]) ([]) 12 := by
    intro k12_26 k12_34 hk12_26 hk12_34 n12
    induction n12 with
    | zero => intro x3 hf; exact (nomatch (show (none : Option (Int32)) = some _ from hf))
    | succ n12 ih12 =>
      intro x3 hf
      rw [f_Qu_lastHeld_L12] at hf
      refine r_iload_n (pc := 12) cx dX5_lastHeld_12 2 rfl ?_
      refine r_if_lt (pc := 13) (tgt := 34) cx dX5_lastHeld_13 (by decide) (fun h5 => ?_) (fun h5 => ?_)
      · have hf := ifp h5 hf
        refine r_loc (loc' := []) [] rfl ?_
        exact hk12_34 hf
      · have hf := ifn h5 hf
        refine r_aload_n (pc := 16) cx dX5_lastHeld_16 0 rfl ?_
        refine r_get (pc := 17) cx cf_X5 0 3 rfl (by decide) rfl wd_346 dX5_lastHeld_17 ?_
        refine r_iload_n (pc := 20) cx dX5_lastHeld_20 2 rfl ?_
        obtain ⟨h6, hf⟩ := chk_of hf
        refine r_iald (pc := 21) cx 4 rfl h6 dX5_lastHeld_21 ?_
        refine r_iload_n (pc := 22) cx dX5_lastHeld_22 1 rfl ?_
        refine r_icmp_ne (pc := 23) (tgt := 28) cx dX5_lastHeld_23 (by decide) (fun h7 => ?_) (fun h7 => ?_)
        · have hf := ifn h7 hf
          obtain ⟨x8, ex8, hf⟩ := nm_of hf
          refine r_iinc (pc := 28) (loc' := [(2, .int x8), (0, .ref (q 0)), (1, .int a1)]) (v := x8) cx dX5_lastHeld_28 2 rfl ((congrArg (fun z => x3 + z) ic_m1).trans ex8.symm) (by decide) rfl ?_
          refine r_goto (pc := 31) (tgt := 12) cx dX5_lastHeld_31 (by decide) ?_
          refine r_loc (loc' := [(0, .ref (q 0)), (1, .int a1), (2, .int x8)]) [1, 2, 0] rfl ?_
          exact ih12 _ hf
        · have hf := ifp h7 hf
          refine r_loc (loc' := [(2, .int x3)]) [2] rfl ?_
          exact hk12_26 _ hf
  refine r_loc (loc' := [(0, .ref (q 0)), (1, .int a1), (2, .int x2)]) [1, 2, 0] rfl ?_
  refine hL12 _ _ (fun x4 hf => ?_) (fun hf => ?_) _ _ hf
  · refine r_iload_n (pc := 26) cx dX5_lastHeld_26 0 rfl ?_
    cases hf
    exact r_iret (pc := 27) cx rfl rfl dX5_lastHeld_27
  · refine r_iconst (pc := 34) cx dX5_lastHeld_34 ic_m1 ?_
    cases hf
    exact r_iret (pc := 35) cx rfl rfl dX5_lastHeld_35
theorem yv_X5_lastHeld : YV yX5_lastHeld cX5_lastHeld 3 (some .int) 1 := ⟨⟨by decide +kernel, by decide +kernel, by decide +kernel⟩, wd_874, wd_97, wd_872, wd_873⟩
def f_Qu_allCompared (v : T_Qu) : Option (Int32) :=
  (if (Qu_loads v) = (0 : Int32) then (if (Qu_branches v) = (0 : Int32) then (if (Qu_comparedHeld v) = (Qu_held v) then (some (1 : Int32)) else (some (0 : Int32))) else (some (0 : Int32))) else (some (0 : Int32)))
abbrev rm_Qu_allCompared : Room := { frames := 0, cells := 0, slots := 0, locals := 0 }
set_option maxRecDepth 100000 in
set_option maxHeartbeats 4000000 in
theorem m_Qu_allCompared (l : Launch) (D : va_G) (K : Nat → ClassId) (q : Nat → Nat) (v : T_Qu) {r_ : Int32} (hf : f_Qu_allCompared v = some r_) : MI l yX5_allCompared cX5_allCompared 1 (some .boolean) rm_Qu_allCompared D K [.ref (q 0)] (cl_Qu K q v) r_ (cl_Qu K q v) := by
  refine MI_of (loc0 := [(0, .ref (q 0))]) (by decide +kernel) rfl (Nat.le_of_ble_eq_true rfl) ?_
  intro p e s m args below meth c A cx
  unfold f_Qu_allCompared at hf
  refine r_ws (ws' := [((q 0), ob 4 [.ref (q 1), .ref (q 2), .ref (q 3), .ref (q 4), .ref (q 5), .ref (q 6), .ref (q 7), .int (Qu_firstLoad v), .int (Qu_loads v), .int (Qu_firstBranch v), .int (Qu_branches v), .int (Qu_held v), .int (Qu_comparedHeld v)]), ((q 1), aI K 8 (Qu_loadAddress v)), ((q 2), aI K 8 (Qu_loadWord v)), ((q 3), aI K 8 (Qu_branch v)), ((q 4), aI K 8 (Qu_heldAddress v)), ((q 5), aI K 8 (Qu_heldWord v)), ((q 6), aI K 8 (Qu_besideAddress v)), ((q 7), aI K 8 (Qu_besideWord v))]) rfl ?_
  refine r_aload_n (pc := 0) cx dX5_allCompared_0 0 rfl ?_
  refine r_get (pc := 1) cx cf_X5 0 8 rfl (by decide) rfl wd_353 dX5_allCompared_1 ?_
  refine r_if_ne (pc := 4) (tgt := 29) cx dX5_allCompared_4 (by decide) (fun h1 => ?_) (fun h1 => ?_)
  · have hf := ifn h1 hf
    refine r_iconst (pc := 29) cx dX5_allCompared_29 ic_0 ?_
    cases hf
    exact r_zret (pc := 30) cx (Or.inl rfl) rfl rfl dX5_allCompared_30
  · have hf := ifp h1 hf
    refine r_aload_n (pc := 7) cx dX5_allCompared_7 0 rfl ?_
    refine r_get (pc := 8) cx cf_X5 0 10 rfl (by decide) rfl wd_357 dX5_allCompared_8 ?_
    refine r_if_ne (pc := 11) (tgt := 29) cx dX5_allCompared_11 (by decide) (fun h2 => ?_) (fun h2 => ?_)
    · have hf := ifn h2 hf
      refine r_iconst (pc := 29) cx dX5_allCompared_29 ic_0 ?_
      cases hf
      exact r_zret (pc := 30) cx (Or.inl rfl) rfl rfl dX5_allCompared_30
    · have hf := ifp h2 hf
      refine r_aload_n (pc := 14) cx dX5_allCompared_14 0 rfl ?_
      refine r_get (pc := 15) cx cf_X5 0 12 rfl (by decide) rfl wd_363 dX5_allCompared_15 ?_
      refine r_aload_n (pc := 18) cx dX5_allCompared_18 0 rfl ?_
      refine r_get (pc := 19) cx cf_X5 0 11 rfl (by decide) rfl wd_360 dX5_allCompared_19 ?_
      refine r_icmp_ne (pc := 22) (tgt := 29) cx dX5_allCompared_22 (by decide) (fun h3 => ?_) (fun h3 => ?_)
      · have hf := ifn h3 hf
        refine r_iconst (pc := 29) cx dX5_allCompared_29 ic_0 ?_
        cases hf
        exact r_zret (pc := 30) cx (Or.inl rfl) rfl rfl dX5_allCompared_30
      · have hf := ifp h3 hf
        refine r_iconst (pc := 25) cx dX5_allCompared_25 ic_1 ?_
        refine r_goto (pc := 26) (tgt := 30) cx dX5_allCompared_26 (by decide) ?_
        cases hf
        exact r_zret (pc := 30) cx (Or.inr rfl) rfl rfl dX5_allCompared_30
theorem yv_X5_allCompared : YV yX5_allCompared cX5_allCompared 1 (some .boolean) 0 := ⟨⟨by decide +kernel, by decide +kernel, by decide +kernel⟩, wd_780, wd_97, wd_778, wd_779⟩
def f_Qu_allSame_L2 (v : T_Qu) (k2_46 : Option (Int32)) (k2_54 : Option (Int32)) : Nat → Int32 → Option (Int32)
  | 0, _ => none
  | n2 + 1, x1 =>
    (if (Qu_held v) ≤ x1 then (k2_54) else (if (8 : Int32) ≤ x1 then (k2_54) else (if ix x1 8 then (if ix x1 8 then (if ((Qu_heldAddress v) x1.toNatClampNeg) = ((Qu_besideAddress v) x1.toNatClampNeg) then (if ix x1 8 then (if ix x1 8 then (if ((Qu_heldWord v) x1.toNatClampNeg) = ((Qu_besideWord v) x1.toNatClampNeg) then (nm (x1 + (1 : Int32)) fun (x10 : Int32) => (f_Qu_allSame_L2 v k2_46 k2_54 n2 x10)) else (k2_46)) else none) else none) else (k2_46)) else none) else none)))
def f_Qu_allSame (v : T_Qu) : Option (Int32) :=
  (f_Qu_allSame_L2 v (some (0 : Int32)) (some (1 : Int32)) LF (0 : Int32))
abbrev rm_Qu_allSame : Room := { frames := 0, cells := 0, slots := 0, locals := 0 }
set_option maxRecDepth 100000 in
set_option maxHeartbeats 4000000 in
theorem m_Qu_allSame (l : Launch) (D : va_G) (K : Nat → ClassId) (q : Nat → Nat) (v : T_Qu) {r_ : Int32} (hf : f_Qu_allSame v = some r_) : MI l yX5_allSame cX5_allSame 2 (some .boolean) rm_Qu_allSame D K [.ref (q 0)] (cl_Qu K q v) r_ (cl_Qu K q v) := by
  refine MI_of (loc0 := [(0, .ref (q 0))]) (by decide +kernel) rfl (Nat.le_of_ble_eq_true rfl) ?_
  intro p e s m args below meth c A cx
  unfold f_Qu_allSame at hf
  refine r_ws (ws' := [((q 0), ob 4 [.ref (q 1), .ref (q 2), .ref (q 3), .ref (q 4), .ref (q 5), .ref (q 6), .ref (q 7), .int (Qu_firstLoad v), .int (Qu_loads v), .int (Qu_firstBranch v), .int (Qu_branches v), .int (Qu_held v), .int (Qu_comparedHeld v)]), ((q 1), aI K 8 (Qu_loadAddress v)), ((q 2), aI K 8 (Qu_loadWord v)), ((q 3), aI K 8 (Qu_branch v)), ((q 4), aI K 8 (Qu_heldAddress v)), ((q 5), aI K 8 (Qu_heldWord v)), ((q 6), aI K 8 (Qu_besideAddress v)), ((q 7), aI K 8 (Qu_besideWord v))]) rfl ?_
  refine r_iconst (pc := 0) cx dX5_allSame_0 ic_0 ?_
  refine r_istore_n (pc := 1) (loc' := [(1, .int (0 : Int32)), (0, .ref (q 0))]) cx dX5_allSame_1 rfl (by decide) rfl ?_
  have hL2 : ∀ (k2_46 : Option (Int32)) (k2_54 : Option (Int32)), (k2_46 = some r_ → WW p l e rm_Qu_allSame s m args below meth c D A 2 0 0 (MQ below (QI D K A r_ (cl_Qu K q v)) args s 0 0 A) ([((q 0), ob 4 [.ref (q 1), .ref (q 2), .ref (q 3), .ref (q 4), .ref (q 5), .ref (q 6), .ref (q 7), .int (Qu_firstLoad v), .int (Qu_loads v), .int (Qu_firstBranch v), .int (Qu_branches v), .int (Qu_held v), .int (Qu_comparedHeld v)]), ((q 1), aI K 8 (Qu_loadAddress v)), ((q 2), aI K 8 (Qu_loadWord v)), ((q 3), aI K 8 (Qu_branch v)), ((q 4), aI K 8 (Qu_heldAddress v)), ((q 5), aI K 8 (Qu_heldWord v)), ((q 6), aI K 8 (Qu_besideAddress v)), ((q 7), aI K 8 (Qu_besideWord v))]) ([]) ([]) 46) → (k2_54 = some r_ → WW p l e rm_Qu_allSame s m args below meth c D A 2 0 0 (MQ below (QI D K A r_ (cl_Qu K q v)) args s 0 0 A) ([((q 0), ob 4 [.ref (q 1), .ref (q 2), .ref (q 3), .ref (q 4), .ref (q 5), .ref (q 6), .ref (q 7), .int (Qu_firstLoad v), .int (Qu_loads v), .int (Qu_firstBranch v), .int (Qu_branches v), .int (Qu_held v), .int (Qu_comparedHeld v)]), ((q 1), aI K 8 (Qu_loadAddress v)), ((q 2), aI K 8 (Qu_loadWord v)), ((q 3), aI K 8 (Qu_branch v)), ((q 4), aI K 8 (Qu_heldAddress v)), ((q 5), aI K 8 (Qu_heldWord v)), ((q 6), aI K 8 (Qu_besideAddress v)), ((q 7), aI K 8 (Qu_besideWord v))]) ([]) ([]) 54) → ∀ (n2 : Nat) (x1 : Int32), f_Qu_allSame_L2 v k2_46 k2_54 n2 x1 = some r_ → WW p l e rm_Qu_allSame s m args below meth c D A 2 0 0 (MQ below (QI D K A r_ (cl_Qu K q v)) args s 0 0 A) ([((q 0), ob 4 [.ref (q 1), .ref (q 2), .ref (q 3), .ref (q 4), .ref (q 5), .ref (q 6), .ref (q 7), .int (Qu_firstLoad v), .int (Qu_loads v), .int (Qu_firstBranch v), .int (Qu_branches v), .int (Qu_held v), .int (Qu_comparedHeld v)]), ((q 1), aI K 8 (Qu_loadAddress v)), ((q 2), aI K 8 (Qu_loadWord v)), ((q 3), aI K 8 (Qu_branch v)), ((q 4), aI K 8 (Qu_heldAddress v)), ((q 5), aI K 8 (Qu_heldWord v)), ((q 6), aI K 8 (Qu_besideAddress v)), ((q 7), aI K 8 (Qu_besideWord v))]) ([(0, .ref (q 0)), (1, .int x1)]) ([]) 2 := by
    intro k2_46 k2_54 hk2_46 hk2_54 n2
    induction n2 with
    | zero => intro x1 hf; exact (nomatch (show (none : Option (Int32)) = some _ from hf))
    | succ n2 ih2 =>
      intro x1 hf
      rw [f_Qu_allSame_L2] at hf
      refine r_iload_n (pc := 2) cx dX5_allSame_2 1 rfl ?_
      refine r_aload_n (pc := 3) cx dX5_allSame_3 0 rfl ?_
      refine r_get (pc := 4) cx cf_X5 0 11 rfl (by decide) rfl wd_360 dX5_allSame_4 ?_
      refine r_icmp_ge (pc := 7) (tgt := 54) cx dX5_allSame_7 (by decide) (fun h2 => ?_) (fun h2 => ?_)
      · have hf := ifp h2 hf
        refine r_loc (loc' := []) [] rfl ?_
        exact hk2_54 hf
      · have hf := ifn h2 hf
        refine r_iload_n (pc := 10) cx dX5_allSame_10 1 rfl ?_
        refine r_bipush (pc := 11) cx dX5_allSame_11 bp_8 ?_
        refine r_icmp_ge (pc := 13) (tgt := 54) cx dX5_allSame_13 (by decide) (fun h3 => ?_) (fun h3 => ?_)
        · have hf := ifp h3 hf
          refine r_loc (loc' := []) [] rfl ?_
          exact hk2_54 hf
        · have hf := ifn h3 hf
          refine r_aload_n (pc := 16) cx dX5_allSame_16 0 rfl ?_
          refine r_get (pc := 17) cx cf_X5 0 3 rfl (by decide) rfl wd_346 dX5_allSame_17 ?_
          refine r_iload_n (pc := 20) cx dX5_allSame_20 1 rfl ?_
          obtain ⟨h4, hf⟩ := chk_of hf
          refine r_iald (pc := 21) cx 4 rfl h4 dX5_allSame_21 ?_
          refine r_aload_n (pc := 22) cx dX5_allSame_22 0 rfl ?_
          refine r_get (pc := 23) cx cf_X5 0 5 rfl (by decide) rfl wd_350 dX5_allSame_23 ?_
          refine r_iload_n (pc := 26) cx dX5_allSame_26 1 rfl ?_
          obtain ⟨h5, hf⟩ := chk_of hf
          refine r_iald (pc := 27) cx 6 rfl h5 dX5_allSame_27 ?_
          refine r_icmp_ne (pc := 28) (tgt := 46) cx dX5_allSame_28 (by decide) (fun h6 => ?_) (fun h6 => ?_)
          · have hf := ifn h6 hf
            refine r_loc (loc' := []) [] rfl ?_
            exact hk2_46 hf
          · have hf := ifp h6 hf
            refine r_aload_n (pc := 31) cx dX5_allSame_31 0 rfl ?_
            refine r_get (pc := 32) cx cf_X5 0 4 rfl (by decide) rfl wd_348 dX5_allSame_32 ?_
            refine r_iload_n (pc := 35) cx dX5_allSame_35 1 rfl ?_
            obtain ⟨h7, hf⟩ := chk_of hf
            refine r_iald (pc := 36) cx 5 rfl h7 dX5_allSame_36 ?_
            refine r_aload_n (pc := 37) cx dX5_allSame_37 0 rfl ?_
            refine r_get (pc := 38) cx cf_X5 0 6 rfl (by decide) rfl wd_351 dX5_allSame_38 ?_
            refine r_iload_n (pc := 41) cx dX5_allSame_41 1 rfl ?_
            obtain ⟨h8, hf⟩ := chk_of hf
            refine r_iald (pc := 42) cx 7 rfl h8 dX5_allSame_42 ?_
            refine r_icmp_eq (pc := 43) (tgt := 48) cx dX5_allSame_43 (by decide) (fun h9 => ?_) (fun h9 => ?_)
            · have hf := ifp h9 hf
              obtain ⟨x10, ex10, hf⟩ := nm_of hf
              refine r_iinc (pc := 48) (loc' := [(1, .int x10), (0, .ref (q 0))]) (v := x10) cx dX5_allSame_48 1 rfl ((congrArg (fun z => x1 + z) ic_1).trans ex10.symm) (by decide) rfl ?_
              refine r_goto (pc := 51) (tgt := 2) cx dX5_allSame_51 (by decide) ?_
              refine r_loc (loc' := [(0, .ref (q 0)), (1, .int x10)]) [1, 0] rfl ?_
              exact ih2 _ hf
            · have hf := ifn h9 hf
              refine r_loc (loc' := []) [] rfl ?_
              exact hk2_46 hf
  refine r_loc (loc' := [(0, .ref (q 0)), (1, .int (0 : Int32))]) [1, 0] rfl ?_
  refine hL2 _ _ (fun hf => ?_) (fun hf => ?_) _ _ hf
  · refine r_iconst (pc := 46) cx dX5_allSame_46 ic_0 ?_
    cases hf
    exact r_zret (pc := 47) cx (Or.inl rfl) rfl rfl dX5_allSame_47
  · refine r_iconst (pc := 54) cx dX5_allSame_54 ic_1 ?_
    cases hf
    exact r_zret (pc := 55) cx (Or.inr rfl) rfl rfl dX5_allSame_55
theorem yv_X5_allSame : YV yX5_allSame cX5_allSame 2 (some .boolean) 0 := ⟨⟨by decide +kernel, by decide +kernel, by decide +kernel⟩, wd_784, wd_97, wd_782, wd_783⟩
def f_Qu_flipIn (ar : (Nat → Int32)) (a1 : Int32) (a2 : Int32) (a3 : Int32) : Option (Int32 × (Nat → Int32)) :=
  (if a2 = (0 : Int32) then (if isB a2 then (some (a2, ar)) else none) else (nm (a1 &&& (7 : Int32)) fun (x3 : Int32) => (nm ((ar x3.toNatClampNeg) ^^^ ((1 : Int32) <<< (a3 &&& 31))) fun (x4 : Int32) => (nm (upd ar x3.toNatClampNeg x4) fun (f5 : Nat → Int32) => (if isB a2 then (some (a2, f5)) else none)))))
abbrev rm_Qu_flipIn : Room := { frames := 0, cells := 0, slots := 0, locals := 0 }
set_option maxRecDepth 100000 in
set_option maxHeartbeats 4000000 in
theorem m_Qu_flipIn (l : Launch) (D : va_G) (K : Nat → ClassId) (qz : Nat → Nat) (ar : (Nat → Int32)) (a1 : Int32) (a2 : Int32) (a3 : Int32) {r_ : Int32} {o_ar : (Nat → Int32)} (hf : f_Qu_flipIn ar a1 a2 a3 = some (r_, o_ar)) : MI l yX5_flipIn cX5_flipIn 4 (some .boolean) rm_Qu_flipIn D K [.ref (qz 0), .int a1, .int a2, .int a3] (cl_R K 8 qz ar) r_ (cl_R K 8 qz o_ar) := by
  refine MI_of (loc0 := [(0, .ref (qz 0)), (1, .int a1), (2, .int a2), (3, .int a3)]) (by decide +kernel) rfl (Nat.le_of_ble_eq_true rfl) ?_
  intro p e s m args below meth c A cx
  unfold f_Qu_flipIn at hf
  refine r_ws (ws' := [((qz 0), aI K 8 ar)]) rfl ?_
  refine r_iload_n (pc := 0) cx dX5_flipIn_0 2 rfl ?_
  refine r_if_eq (pc := 1) (tgt := 16) cx dX5_flipIn_1 (by decide) (fun h1 => ?_) (fun h1 => ?_)
  · have hf := ifp h1 hf
    refine r_iload_n (pc := 16) cx dX5_flipIn_16 2 rfl ?_
    obtain ⟨h2, hf⟩ := chk_of hf
    cases hf
    exact r_zret (pc := 17) cx h2 rfl rfl dX5_flipIn_17
  · have hf := ifn h1 hf
    refine r_aload_n (pc := 4) cx dX5_flipIn_4 0 rfl ?_
    refine r_iload_n (pc := 5) cx dX5_flipIn_5 1 rfl ?_
    refine r_bipush (pc := 6) cx dX5_flipIn_6 bp_7 ?_
    refine r_iand (pc := 8) cx dX5_flipIn_8 ?_
    obtain ⟨x3, ex3, hf⟩ := nm_of hf
    refine r_nm ex3 ?_
    refine r_dup2 (pc := 9) cx dX5_flipIn_9 rfl rfl ?_
    refine r_iald (pc := 10) cx 0 rfl (by rw [ex3]; exact ix_and7 _) dX5_flipIn_10 ?_
    refine r_iconst (pc := 11) cx dX5_flipIn_11 ic_1 ?_
    refine r_iload_n (pc := 12) cx dX5_flipIn_12 3 rfl ?_
    refine r_ishl (pc := 13) cx dX5_flipIn_13 ?_
    refine r_ixor (pc := 14) cx dX5_flipIn_14 ?_
    obtain ⟨x4, ex4, hf⟩ := nm_of hf
    refine r_nm ex4 ?_
    obtain ⟨f5, ef5, hf⟩ := nm_of hf
    refine r_iast (pc := 15) (ws' := [((qz 0), aI K 8 f5)]) cx 0 rfl (by rw [ex3]; exact ix_and7 _) dX5_flipIn_15 ef5 rfl ?_
    refine r_iload_n (pc := 16) cx dX5_flipIn_16 2 rfl ?_
    obtain ⟨h6, hf⟩ := chk_of hf
    cases hf
    exact r_zret (pc := 17) cx h6 rfl rfl dX5_flipIn_17
theorem ys_X5_flipIn : YS yX5_flipIn cX5_flipIn 4 (some .boolean) 4 := ⟨⟨by decide +kernel, by decide +kernel, by decide +kernel⟩, wd_947, wd_97, wd_946⟩
def f_Qu_flipQueued (v : T_Qu) (a1 : Int32) (a2 : Int32) (a3 : Int32) : Option (Int32 × T_Qu) :=
  (if a1 = (6 : Int32) then (if (Qu_loads v) ≤ a2 then (bd2 (f_Qu_flipIn (Qu_loadAddress v) ((Qu_firstLoad v) + a2) (0 : Int32) a3) fun (r3 : Int32) (v4 : (Nat → Int32)) => (if isB r3 then (some (r3, (v4, (Qu_loadWord v), (Qu_branch v), (Qu_heldAddress v), (Qu_heldWord v), (Qu_besideAddress v), (Qu_besideWord v), (Qu_firstLoad v), (Qu_loads v), (Qu_firstBranch v), (Qu_branches v), (Qu_held v), (Qu_comparedHeld v)))) else none)) else (if (5 : Int32) ≤ a3 then (bd2 (f_Qu_flipIn (Qu_loadAddress v) ((Qu_firstLoad v) + a2) (0 : Int32) a3) fun (r8 : Int32) (v9 : (Nat → Int32)) => (if isB r8 then (some (r8, (v9, (Qu_loadWord v), (Qu_branch v), (Qu_heldAddress v), (Qu_heldWord v), (Qu_besideAddress v), (Qu_besideWord v), (Qu_firstLoad v), (Qu_loads v), (Qu_firstBranch v), (Qu_branches v), (Qu_held v), (Qu_comparedHeld v)))) else none)) else (bd2 (f_Qu_flipIn (Qu_loadAddress v) ((Qu_firstLoad v) + a2) (1 : Int32) a3) fun (r12 : Int32) (v13 : (Nat → Int32)) => (if isB r12 then (some (r12, (v13, (Qu_loadWord v), (Qu_branch v), (Qu_heldAddress v), (Qu_heldWord v), (Qu_besideAddress v), (Qu_besideWord v), (Qu_firstLoad v), (Qu_loads v), (Qu_firstBranch v), (Qu_branches v), (Qu_held v), (Qu_comparedHeld v)))) else none)))) else (if a1 = (7 : Int32) then (if (Qu_loads v) ≤ a2 then (bd2 (f_Qu_flipIn (Qu_loadWord v) ((Qu_firstLoad v) + a2) (0 : Int32) a3) fun (r18 : Int32) (v19 : (Nat → Int32)) => (if isB r18 then (some (r18, ((Qu_loadAddress v), v19, (Qu_branch v), (Qu_heldAddress v), (Qu_heldWord v), (Qu_besideAddress v), (Qu_besideWord v), (Qu_firstLoad v), (Qu_loads v), (Qu_firstBranch v), (Qu_branches v), (Qu_held v), (Qu_comparedHeld v)))) else none)) else (bd2 (f_Qu_flipIn (Qu_loadWord v) ((Qu_firstLoad v) + a2) (1 : Int32) a3) fun (r22 : Int32) (v23 : (Nat → Int32)) => (if isB r22 then (some (r22, ((Qu_loadAddress v), v23, (Qu_branch v), (Qu_heldAddress v), (Qu_heldWord v), (Qu_besideAddress v), (Qu_besideWord v), (Qu_firstLoad v), (Qu_loads v), (Qu_firstBranch v), (Qu_branches v), (Qu_held v), (Qu_comparedHeld v)))) else none))) else (if a1 = (8 : Int32) then (if (Qu_branches v) ≤ a2 then (bd2 (f_Qu_flipIn (Qu_branch v) ((Qu_firstBranch v) + a2) (0 : Int32) a3) fun (r28 : Int32) (v29 : (Nat → Int32)) => (if isB r28 then (some (r28, ((Qu_loadAddress v), (Qu_loadWord v), v29, (Qu_heldAddress v), (Qu_heldWord v), (Qu_besideAddress v), (Qu_besideWord v), (Qu_firstLoad v), (Qu_loads v), (Qu_firstBranch v), (Qu_branches v), (Qu_held v), (Qu_comparedHeld v)))) else none)) else (if (1 : Int32) ≤ a3 then (bd2 (f_Qu_flipIn (Qu_branch v) ((Qu_firstBranch v) + a2) (0 : Int32) a3) fun (r33 : Int32) (v34 : (Nat → Int32)) => (if isB r33 then (some (r33, ((Qu_loadAddress v), (Qu_loadWord v), v34, (Qu_heldAddress v), (Qu_heldWord v), (Qu_besideAddress v), (Qu_besideWord v), (Qu_firstLoad v), (Qu_loads v), (Qu_firstBranch v), (Qu_branches v), (Qu_held v), (Qu_comparedHeld v)))) else none)) else (bd2 (f_Qu_flipIn (Qu_branch v) ((Qu_firstBranch v) + a2) (1 : Int32) a3) fun (r37 : Int32) (v38 : (Nat → Int32)) => (if isB r37 then (some (r37, ((Qu_loadAddress v), (Qu_loadWord v), v38, (Qu_heldAddress v), (Qu_heldWord v), (Qu_besideAddress v), (Qu_besideWord v), (Qu_firstLoad v), (Qu_loads v), (Qu_firstBranch v), (Qu_branches v), (Qu_held v), (Qu_comparedHeld v)))) else none)))) else (if a1 = (9 : Int32) then (if (Qu_held v) ≤ a2 then (bd2 (f_Qu_flipIn (Qu_heldAddress v) a2 (0 : Int32) a3) fun (r43 : Int32) (v44 : (Nat → Int32)) => (if isB r43 then (some (r43, ((Qu_loadAddress v), (Qu_loadWord v), (Qu_branch v), v44, (Qu_heldWord v), (Qu_besideAddress v), (Qu_besideWord v), (Qu_firstLoad v), (Qu_loads v), (Qu_firstBranch v), (Qu_branches v), (Qu_held v), (Qu_comparedHeld v)))) else none)) else (if (6 : Int32) ≤ a3 then (bd2 (f_Qu_flipIn (Qu_heldAddress v) a2 (0 : Int32) a3) fun (r48 : Int32) (v49 : (Nat → Int32)) => (if isB r48 then (some (r48, ((Qu_loadAddress v), (Qu_loadWord v), (Qu_branch v), v49, (Qu_heldWord v), (Qu_besideAddress v), (Qu_besideWord v), (Qu_firstLoad v), (Qu_loads v), (Qu_firstBranch v), (Qu_branches v), (Qu_held v), (Qu_comparedHeld v)))) else none)) else (bd2 (f_Qu_flipIn (Qu_heldAddress v) a2 (1 : Int32) a3) fun (r52 : Int32) (v53 : (Nat → Int32)) => (if isB r52 then (some (r52, ((Qu_loadAddress v), (Qu_loadWord v), (Qu_branch v), v53, (Qu_heldWord v), (Qu_besideAddress v), (Qu_besideWord v), (Qu_firstLoad v), (Qu_loads v), (Qu_firstBranch v), (Qu_branches v), (Qu_held v), (Qu_comparedHeld v)))) else none)))) else (if a1 = (10 : Int32) then (if (Qu_held v) ≤ a2 then (bd2 (f_Qu_flipIn (Qu_heldWord v) a2 (0 : Int32) a3) fun (r58 : Int32) (v59 : (Nat → Int32)) => (if isB r58 then (some (r58, ((Qu_loadAddress v), (Qu_loadWord v), (Qu_branch v), (Qu_heldAddress v), v59, (Qu_besideAddress v), (Qu_besideWord v), (Qu_firstLoad v), (Qu_loads v), (Qu_firstBranch v), (Qu_branches v), (Qu_held v), (Qu_comparedHeld v)))) else none)) else (bd2 (f_Qu_flipIn (Qu_heldWord v) a2 (1 : Int32) a3) fun (r62 : Int32) (v63 : (Nat → Int32)) => (if isB r62 then (some (r62, ((Qu_loadAddress v), (Qu_loadWord v), (Qu_branch v), (Qu_heldAddress v), v63, (Qu_besideAddress v), (Qu_besideWord v), (Qu_firstLoad v), (Qu_loads v), (Qu_firstBranch v), (Qu_branches v), (Qu_held v), (Qu_comparedHeld v)))) else none))) else (if a1 = (11 : Int32) then (if (Qu_comparedHeld v) ≤ a2 then (bd2 (f_Qu_flipIn (Qu_besideAddress v) a2 (0 : Int32) a3) fun (r68 : Int32) (v69 : (Nat → Int32)) => (if isB r68 then (some (r68, ((Qu_loadAddress v), (Qu_loadWord v), (Qu_branch v), (Qu_heldAddress v), (Qu_heldWord v), v69, (Qu_besideWord v), (Qu_firstLoad v), (Qu_loads v), (Qu_firstBranch v), (Qu_branches v), (Qu_held v), (Qu_comparedHeld v)))) else none)) else (if (6 : Int32) ≤ a3 then (bd2 (f_Qu_flipIn (Qu_besideAddress v) a2 (0 : Int32) a3) fun (r73 : Int32) (v74 : (Nat → Int32)) => (if isB r73 then (some (r73, ((Qu_loadAddress v), (Qu_loadWord v), (Qu_branch v), (Qu_heldAddress v), (Qu_heldWord v), v74, (Qu_besideWord v), (Qu_firstLoad v), (Qu_loads v), (Qu_firstBranch v), (Qu_branches v), (Qu_held v), (Qu_comparedHeld v)))) else none)) else (bd2 (f_Qu_flipIn (Qu_besideAddress v) a2 (1 : Int32) a3) fun (r77 : Int32) (v78 : (Nat → Int32)) => (if isB r77 then (some (r77, ((Qu_loadAddress v), (Qu_loadWord v), (Qu_branch v), (Qu_heldAddress v), (Qu_heldWord v), v78, (Qu_besideWord v), (Qu_firstLoad v), (Qu_loads v), (Qu_firstBranch v), (Qu_branches v), (Qu_held v), (Qu_comparedHeld v)))) else none)))) else (if a1 = (12 : Int32) then (if (Qu_comparedHeld v) ≤ a2 then (bd2 (f_Qu_flipIn (Qu_besideWord v) a2 (0 : Int32) a3) fun (r83 : Int32) (v84 : (Nat → Int32)) => (if isB r83 then (some (r83, ((Qu_loadAddress v), (Qu_loadWord v), (Qu_branch v), (Qu_heldAddress v), (Qu_heldWord v), (Qu_besideAddress v), v84, (Qu_firstLoad v), (Qu_loads v), (Qu_firstBranch v), (Qu_branches v), (Qu_held v), (Qu_comparedHeld v)))) else none)) else (bd2 (f_Qu_flipIn (Qu_besideWord v) a2 (1 : Int32) a3) fun (r87 : Int32) (v88 : (Nat → Int32)) => (if isB r87 then (some (r87, ((Qu_loadAddress v), (Qu_loadWord v), (Qu_branch v), (Qu_heldAddress v), (Qu_heldWord v), (Qu_besideAddress v), v88, (Qu_firstLoad v), (Qu_loads v), (Qu_firstBranch v), (Qu_branches v), (Qu_held v), (Qu_comparedHeld v)))) else none))) else (some ((0 : Int32), v)))))))))
abbrev rm_Qu_flipQueued : Room := { frames := 1, cells := 0, slots := 0, locals := 23 }
set_option maxRecDepth 100000 in
set_option maxHeartbeats 4000000 in
theorem m_Qu_flipQueued (l : Launch) (D : va_G) (K : Nat → ClassId) (q : Nat → Nat) (v : T_Qu) (a1 : Int32) (a2 : Int32) (a3 : Int32) {r_ : Int32} {o_v : T_Qu} (hf : f_Qu_flipQueued v a1 a2 a3 = some (r_, o_v)) : MI l yX5_flipQueued cX5_flipQueued 4 (some .boolean) rm_Qu_flipQueued D K [.ref (q 0), .int a1, .int a2, .int a3] (cl_Qu K q v) r_ (cl_Qu K q o_v) := by
  refine MI_of (loc0 := [(0, .ref (q 0)), (1, .int a1), (2, .int a2), (3, .int a3)]) (by decide +kernel) rfl (Nat.le_of_ble_eq_true rfl) ?_
  intro p e s m args below meth c A cx
  unfold f_Qu_flipQueued at hf
  refine r_ws (ws' := [((q 0), ob 4 [.ref (q 1), .ref (q 2), .ref (q 3), .ref (q 4), .ref (q 5), .ref (q 6), .ref (q 7), .int (Qu_firstLoad v), .int (Qu_loads v), .int (Qu_firstBranch v), .int (Qu_branches v), .int (Qu_held v), .int (Qu_comparedHeld v)]), ((q 1), aI K 8 (Qu_loadAddress v)), ((q 2), aI K 8 (Qu_loadWord v)), ((q 3), aI K 8 (Qu_branch v)), ((q 4), aI K 8 (Qu_heldAddress v)), ((q 5), aI K 8 (Qu_heldWord v)), ((q 6), aI K 8 (Qu_besideAddress v)), ((q 7), aI K 8 (Qu_besideWord v))]) rfl ?_
  refine r_iload_n (pc := 0) cx dX5_flipQueued_0 1 rfl ?_
  by_cases h1 : a1 = (6 : Int32)
  · have hf := ifp h1 hf
    refine r_tin (pc := 1) (tgt := 44) cx (6 : Int32) h1 dX5_flipQueued_1 (by decide) (by decide) rfl (by decide) ?_
    refine r_aload_n (pc := 44) cx dX5_flipQueued_44 0 rfl ?_
    refine r_get (pc := 45) cx cf_X5 0 0 rfl (by decide) rfl wd_343 dX5_flipQueued_45 ?_
    refine r_aload_n (pc := 48) cx dX5_flipQueued_48 0 rfl ?_
    refine r_get (pc := 49) cx cf_X5 0 7 rfl (by decide) rfl wd_352 dX5_flipQueued_49 ?_
    refine r_iload_n (pc := 52) cx dX5_flipQueued_52 2 rfl ?_
    refine r_iadd (pc := 53) cx dX5_flipQueued_53 ?_
    refine r_iload_n (pc := 54) cx dX5_flipQueued_54 2 rfl ?_
    refine r_aload_n (pc := 55) cx dX5_flipQueued_55 0 rfl ?_
    refine r_get (pc := 56) cx cf_X5 0 8 rfl (by decide) rfl wd_353 dX5_flipQueued_56 ?_
    refine r_icmp_ge (pc := 59) (tgt := 71) cx dX5_flipQueued_59 (by decide) (fun h2 => ?_) (fun h2 => ?_)
    · have hf := ifp h2 hf
      refine r_iconst (pc := 71) cx dX5_flipQueued_71 ic_0 ?_
      refine r_iload_n (pc := 72) cx dX5_flipQueued_72 3 rfl ?_
      obtain ⟨r3, v4, hc5, hf⟩ := bd2_of hf
      refine r_Si (pc := 73) (ws' := [((q 0), ob 4 [.ref (q 1), .ref (q 2), .ref (q 3), .ref (q 4), .ref (q 5), .ref (q 6), .ref (q 7), .int (Qu_firstLoad v), .int (Qu_loads v), .int (Qu_firstBranch v), .int (Qu_branches v), .int (Qu_held v), .int (Qu_comparedHeld v)]), ((q 1), aI K 8 v4), ((q 2), aI K 8 (Qu_loadWord v)), ((q 3), aI K 8 (Qu_branch v)), ((q 4), aI K 8 (Qu_heldAddress v)), ((q 5), aI K 8 (Qu_heldWord v)), ((q 6), aI K 8 (Qu_besideAddress v)), ((q 7), aI K 8 (Qu_besideWord v))]) cx [.ref (q 1), .int ((Qu_firstLoad v) + a2), .int (0 : Int32), .int a3] [] [1] (m_Qu_flipIn l D K (fun i => q (i + 1)) (Qu_loadAddress v) ((Qu_firstLoad v) + a2) (0 : Int32) a3 hc5) ys_X5_flipIn wd_945 ⟨rfl, rfl⟩ (by decide) rfl rfl rfl (by decide) rfl (Nat.le_of_ble_eq_true rfl) dX5_flipQueued_73 ?_
      obtain ⟨h6, hf⟩ := chk_of hf
      cases hf
      exact r_zret (pc := 76) cx h6 rfl rfl dX5_flipQueued_76
    · have hf := ifn h2 hf
      refine r_iload_n (pc := 62) cx dX5_flipQueued_62 3 rfl ?_
      refine r_iconst (pc := 63) cx dX5_flipQueued_63 ic_5 ?_
      refine r_icmp_ge (pc := 64) (tgt := 71) cx dX5_flipQueued_64 (by decide) (fun h7 => ?_) (fun h7 => ?_)
      · have hf := ifp h7 hf
        refine r_iconst (pc := 71) cx dX5_flipQueued_71 ic_0 ?_
        refine r_iload_n (pc := 72) cx dX5_flipQueued_72 3 rfl ?_
        obtain ⟨r8, v9, hc10, hf⟩ := bd2_of hf
        refine r_Si (pc := 73) (ws' := [((q 0), ob 4 [.ref (q 1), .ref (q 2), .ref (q 3), .ref (q 4), .ref (q 5), .ref (q 6), .ref (q 7), .int (Qu_firstLoad v), .int (Qu_loads v), .int (Qu_firstBranch v), .int (Qu_branches v), .int (Qu_held v), .int (Qu_comparedHeld v)]), ((q 1), aI K 8 v9), ((q 2), aI K 8 (Qu_loadWord v)), ((q 3), aI K 8 (Qu_branch v)), ((q 4), aI K 8 (Qu_heldAddress v)), ((q 5), aI K 8 (Qu_heldWord v)), ((q 6), aI K 8 (Qu_besideAddress v)), ((q 7), aI K 8 (Qu_besideWord v))]) cx [.ref (q 1), .int ((Qu_firstLoad v) + a2), .int (0 : Int32), .int a3] [] [1] (m_Qu_flipIn l D K (fun i => q (i + 1)) (Qu_loadAddress v) ((Qu_firstLoad v) + a2) (0 : Int32) a3 hc10) ys_X5_flipIn wd_945 ⟨rfl, rfl⟩ (by decide) rfl rfl rfl (by decide) rfl (Nat.le_of_ble_eq_true rfl) dX5_flipQueued_73 ?_
        obtain ⟨h11, hf⟩ := chk_of hf
        cases hf
        exact r_zret (pc := 76) cx h11 rfl rfl dX5_flipQueued_76
      · have hf := ifn h7 hf
        refine r_iconst (pc := 67) cx dX5_flipQueued_67 ic_1 ?_
        refine r_goto (pc := 68) (tgt := 72) cx dX5_flipQueued_68 (by decide) ?_
        refine r_iload_n (pc := 72) cx dX5_flipQueued_72 3 rfl ?_
        obtain ⟨r12, v13, hc14, hf⟩ := bd2_of hf
        refine r_Si (pc := 73) (ws' := [((q 0), ob 4 [.ref (q 1), .ref (q 2), .ref (q 3), .ref (q 4), .ref (q 5), .ref (q 6), .ref (q 7), .int (Qu_firstLoad v), .int (Qu_loads v), .int (Qu_firstBranch v), .int (Qu_branches v), .int (Qu_held v), .int (Qu_comparedHeld v)]), ((q 1), aI K 8 v13), ((q 2), aI K 8 (Qu_loadWord v)), ((q 3), aI K 8 (Qu_branch v)), ((q 4), aI K 8 (Qu_heldAddress v)), ((q 5), aI K 8 (Qu_heldWord v)), ((q 6), aI K 8 (Qu_besideAddress v)), ((q 7), aI K 8 (Qu_besideWord v))]) cx [.ref (q 1), .int ((Qu_firstLoad v) + a2), .int (1 : Int32), .int a3] [] [1] (m_Qu_flipIn l D K (fun i => q (i + 1)) (Qu_loadAddress v) ((Qu_firstLoad v) + a2) (1 : Int32) a3 hc14) ys_X5_flipIn wd_945 ⟨rfl, rfl⟩ (by decide) rfl rfl rfl (by decide) rfl (Nat.le_of_ble_eq_true rfl) dX5_flipQueued_73 ?_
        obtain ⟨h15, hf⟩ := chk_of hf
        cases hf
        exact r_zret (pc := 76) cx h15 rfl rfl dX5_flipQueued_76
  · have hf := ifn h1 hf
    by_cases h16 : a1 = (7 : Int32)
    · have hf := ifp h16 hf
      refine r_tin (pc := 1) (tgt := 77) cx (7 : Int32) h16 dX5_flipQueued_1 (by decide) (by decide) rfl (by decide) ?_
      refine r_aload_n (pc := 77) cx dX5_flipQueued_77 0 rfl ?_
      refine r_get (pc := 78) cx cf_X5 0 1 rfl (by decide) rfl wd_344 dX5_flipQueued_78 ?_
      refine r_aload_n (pc := 81) cx dX5_flipQueued_81 0 rfl ?_
      refine r_get (pc := 82) cx cf_X5 0 7 rfl (by decide) rfl wd_352 dX5_flipQueued_82 ?_
      refine r_iload_n (pc := 85) cx dX5_flipQueued_85 2 rfl ?_
      refine r_iadd (pc := 86) cx dX5_flipQueued_86 ?_
      refine r_iload_n (pc := 87) cx dX5_flipQueued_87 2 rfl ?_
      refine r_aload_n (pc := 88) cx dX5_flipQueued_88 0 rfl ?_
      refine r_get (pc := 89) cx cf_X5 0 8 rfl (by decide) rfl wd_353 dX5_flipQueued_89 ?_
      refine r_icmp_ge (pc := 92) (tgt := 99) cx dX5_flipQueued_92 (by decide) (fun h17 => ?_) (fun h17 => ?_)
      · have hf := ifp h17 hf
        refine r_iconst (pc := 99) cx dX5_flipQueued_99 ic_0 ?_
        refine r_iload_n (pc := 100) cx dX5_flipQueued_100 3 rfl ?_
        obtain ⟨r18, v19, hc20, hf⟩ := bd2_of hf
        refine r_Si (pc := 101) (ws' := [((q 0), ob 4 [.ref (q 1), .ref (q 2), .ref (q 3), .ref (q 4), .ref (q 5), .ref (q 6), .ref (q 7), .int (Qu_firstLoad v), .int (Qu_loads v), .int (Qu_firstBranch v), .int (Qu_branches v), .int (Qu_held v), .int (Qu_comparedHeld v)]), ((q 1), aI K 8 (Qu_loadAddress v)), ((q 2), aI K 8 v19), ((q 3), aI K 8 (Qu_branch v)), ((q 4), aI K 8 (Qu_heldAddress v)), ((q 5), aI K 8 (Qu_heldWord v)), ((q 6), aI K 8 (Qu_besideAddress v)), ((q 7), aI K 8 (Qu_besideWord v))]) cx [.ref (q 2), .int ((Qu_firstLoad v) + a2), .int (0 : Int32), .int a3] [] [2] (m_Qu_flipIn l D K (fun i => q (i + 2)) (Qu_loadWord v) ((Qu_firstLoad v) + a2) (0 : Int32) a3 hc20) ys_X5_flipIn wd_945 ⟨rfl, rfl⟩ (by decide) rfl rfl rfl (by decide) rfl (Nat.le_of_ble_eq_true rfl) dX5_flipQueued_101 ?_
        obtain ⟨h21, hf⟩ := chk_of hf
        cases hf
        exact r_zret (pc := 104) cx h21 rfl rfl dX5_flipQueued_104
      · have hf := ifn h17 hf
        refine r_iconst (pc := 95) cx dX5_flipQueued_95 ic_1 ?_
        refine r_goto (pc := 96) (tgt := 100) cx dX5_flipQueued_96 (by decide) ?_
        refine r_iload_n (pc := 100) cx dX5_flipQueued_100 3 rfl ?_
        obtain ⟨r22, v23, hc24, hf⟩ := bd2_of hf
        refine r_Si (pc := 101) (ws' := [((q 0), ob 4 [.ref (q 1), .ref (q 2), .ref (q 3), .ref (q 4), .ref (q 5), .ref (q 6), .ref (q 7), .int (Qu_firstLoad v), .int (Qu_loads v), .int (Qu_firstBranch v), .int (Qu_branches v), .int (Qu_held v), .int (Qu_comparedHeld v)]), ((q 1), aI K 8 (Qu_loadAddress v)), ((q 2), aI K 8 v23), ((q 3), aI K 8 (Qu_branch v)), ((q 4), aI K 8 (Qu_heldAddress v)), ((q 5), aI K 8 (Qu_heldWord v)), ((q 6), aI K 8 (Qu_besideAddress v)), ((q 7), aI K 8 (Qu_besideWord v))]) cx [.ref (q 2), .int ((Qu_firstLoad v) + a2), .int (1 : Int32), .int a3] [] [2] (m_Qu_flipIn l D K (fun i => q (i + 2)) (Qu_loadWord v) ((Qu_firstLoad v) + a2) (1 : Int32) a3 hc24) ys_X5_flipIn wd_945 ⟨rfl, rfl⟩ (by decide) rfl rfl rfl (by decide) rfl (Nat.le_of_ble_eq_true rfl) dX5_flipQueued_101 ?_
        obtain ⟨h25, hf⟩ := chk_of hf
        cases hf
        exact r_zret (pc := 104) cx h25 rfl rfl dX5_flipQueued_104
    · have hf := ifn h16 hf
      by_cases h26 : a1 = (8 : Int32)
      · have hf := ifp h26 hf
        refine r_tin (pc := 1) (tgt := 105) cx (8 : Int32) h26 dX5_flipQueued_1 (by decide) (by decide) rfl (by decide) ?_
        refine r_aload_n (pc := 105) cx dX5_flipQueued_105 0 rfl ?_
        refine r_get (pc := 106) cx cf_X5 0 2 rfl (by decide) rfl wd_345 dX5_flipQueued_106 ?_
        refine r_aload_n (pc := 109) cx dX5_flipQueued_109 0 rfl ?_
        refine r_get (pc := 110) cx cf_X5 0 9 rfl (by decide) rfl wd_356 dX5_flipQueued_110 ?_
        refine r_iload_n (pc := 113) cx dX5_flipQueued_113 2 rfl ?_
        refine r_iadd (pc := 114) cx dX5_flipQueued_114 ?_
        refine r_iload_n (pc := 115) cx dX5_flipQueued_115 2 rfl ?_
        refine r_aload_n (pc := 116) cx dX5_flipQueued_116 0 rfl ?_
        refine r_get (pc := 117) cx cf_X5 0 10 rfl (by decide) rfl wd_357 dX5_flipQueued_117 ?_
        refine r_icmp_ge (pc := 120) (tgt := 132) cx dX5_flipQueued_120 (by decide) (fun h27 => ?_) (fun h27 => ?_)
        · have hf := ifp h27 hf
          refine r_iconst (pc := 132) cx dX5_flipQueued_132 ic_0 ?_
          refine r_iload_n (pc := 133) cx dX5_flipQueued_133 3 rfl ?_
          obtain ⟨r28, v29, hc30, hf⟩ := bd2_of hf
          refine r_Si (pc := 134) (ws' := [((q 0), ob 4 [.ref (q 1), .ref (q 2), .ref (q 3), .ref (q 4), .ref (q 5), .ref (q 6), .ref (q 7), .int (Qu_firstLoad v), .int (Qu_loads v), .int (Qu_firstBranch v), .int (Qu_branches v), .int (Qu_held v), .int (Qu_comparedHeld v)]), ((q 1), aI K 8 (Qu_loadAddress v)), ((q 2), aI K 8 (Qu_loadWord v)), ((q 3), aI K 8 v29), ((q 4), aI K 8 (Qu_heldAddress v)), ((q 5), aI K 8 (Qu_heldWord v)), ((q 6), aI K 8 (Qu_besideAddress v)), ((q 7), aI K 8 (Qu_besideWord v))]) cx [.ref (q 3), .int ((Qu_firstBranch v) + a2), .int (0 : Int32), .int a3] [] [3] (m_Qu_flipIn l D K (fun i => q (i + 3)) (Qu_branch v) ((Qu_firstBranch v) + a2) (0 : Int32) a3 hc30) ys_X5_flipIn wd_945 ⟨rfl, rfl⟩ (by decide) rfl rfl rfl (by decide) rfl (Nat.le_of_ble_eq_true rfl) dX5_flipQueued_134 ?_
          obtain ⟨h31, hf⟩ := chk_of hf
          cases hf
          exact r_zret (pc := 137) cx h31 rfl rfl dX5_flipQueued_137
        · have hf := ifn h27 hf
          refine r_iload_n (pc := 123) cx dX5_flipQueued_123 3 rfl ?_
          refine r_iconst (pc := 124) cx dX5_flipQueued_124 ic_1 ?_
          refine r_icmp_ge (pc := 125) (tgt := 132) cx dX5_flipQueued_125 (by decide) (fun h32 => ?_) (fun h32 => ?_)
          · have hf := ifp h32 hf
            refine r_iconst (pc := 132) cx dX5_flipQueued_132 ic_0 ?_
            refine r_iload_n (pc := 133) cx dX5_flipQueued_133 3 rfl ?_
            obtain ⟨r33, v34, hc35, hf⟩ := bd2_of hf
            refine r_Si (pc := 134) (ws' := [((q 0), ob 4 [.ref (q 1), .ref (q 2), .ref (q 3), .ref (q 4), .ref (q 5), .ref (q 6), .ref (q 7), .int (Qu_firstLoad v), .int (Qu_loads v), .int (Qu_firstBranch v), .int (Qu_branches v), .int (Qu_held v), .int (Qu_comparedHeld v)]), ((q 1), aI K 8 (Qu_loadAddress v)), ((q 2), aI K 8 (Qu_loadWord v)), ((q 3), aI K 8 v34), ((q 4), aI K 8 (Qu_heldAddress v)), ((q 5), aI K 8 (Qu_heldWord v)), ((q 6), aI K 8 (Qu_besideAddress v)), ((q 7), aI K 8 (Qu_besideWord v))]) cx [.ref (q 3), .int ((Qu_firstBranch v) + a2), .int (0 : Int32), .int a3] [] [3] (m_Qu_flipIn l D K (fun i => q (i + 3)) (Qu_branch v) ((Qu_firstBranch v) + a2) (0 : Int32) a3 hc35) ys_X5_flipIn wd_945 ⟨rfl, rfl⟩ (by decide) rfl rfl rfl (by decide) rfl (Nat.le_of_ble_eq_true rfl) dX5_flipQueued_134 ?_
            obtain ⟨h36, hf⟩ := chk_of hf
            cases hf
            exact r_zret (pc := 137) cx h36 rfl rfl dX5_flipQueued_137
          · have hf := ifn h32 hf
            refine r_iconst (pc := 128) cx dX5_flipQueued_128 ic_1 ?_
            refine r_goto (pc := 129) (tgt := 133) cx dX5_flipQueued_129 (by decide) ?_
            refine r_iload_n (pc := 133) cx dX5_flipQueued_133 3 rfl ?_
            obtain ⟨r37, v38, hc39, hf⟩ := bd2_of hf
            refine r_Si (pc := 134) (ws' := [((q 0), ob 4 [.ref (q 1), .ref (q 2), .ref (q 3), .ref (q 4), .ref (q 5), .ref (q 6), .ref (q 7), .int (Qu_firstLoad v), .int (Qu_loads v), .int (Qu_firstBranch v), .int (Qu_branches v), .int (Qu_held v), .int (Qu_comparedHeld v)]), ((q 1), aI K 8 (Qu_loadAddress v)), ((q 2), aI K 8 (Qu_loadWord v)), ((q 3), aI K 8 v38), ((q 4), aI K 8 (Qu_heldAddress v)), ((q 5), aI K 8 (Qu_heldWord v)), ((q 6), aI K 8 (Qu_besideAddress v)), ((q 7), aI K 8 (Qu_besideWord v))]) cx [.ref (q 3), .int ((Qu_firstBranch v) + a2), .int (1 : Int32), .int a3] [] [3] (m_Qu_flipIn l D K (fun i => q (i + 3)) (Qu_branch v) ((Qu_firstBranch v) + a2) (1 : Int32) a3 hc39) ys_X5_flipIn wd_945 ⟨rfl, rfl⟩ (by decide) rfl rfl rfl (by decide) rfl (Nat.le_of_ble_eq_true rfl) dX5_flipQueued_134 ?_
            obtain ⟨h40, hf⟩ := chk_of hf
            cases hf
            exact r_zret (pc := 137) cx h40 rfl rfl dX5_flipQueued_137
      · have hf := ifn h26 hf
        by_cases h41 : a1 = (9 : Int32)
        · have hf := ifp h41 hf
          refine r_tin (pc := 1) (tgt := 138) cx (9 : Int32) h41 dX5_flipQueued_1 (by decide) (by decide) rfl (by decide) ?_
          refine r_aload_n (pc := 138) cx dX5_flipQueued_138 0 rfl ?_
          refine r_get (pc := 139) cx cf_X5 0 3 rfl (by decide) rfl wd_346 dX5_flipQueued_139 ?_
          refine r_iload_n (pc := 142) cx dX5_flipQueued_142 2 rfl ?_
          refine r_iload_n (pc := 143) cx dX5_flipQueued_143 2 rfl ?_
          refine r_aload_n (pc := 144) cx dX5_flipQueued_144 0 rfl ?_
          refine r_get (pc := 145) cx cf_X5 0 11 rfl (by decide) rfl wd_360 dX5_flipQueued_145 ?_
          refine r_icmp_ge (pc := 148) (tgt := 161) cx dX5_flipQueued_148 (by decide) (fun h42 => ?_) (fun h42 => ?_)
          · have hf := ifp h42 hf
            refine r_iconst (pc := 161) cx dX5_flipQueued_161 ic_0 ?_
            refine r_iload_n (pc := 162) cx dX5_flipQueued_162 3 rfl ?_
            obtain ⟨r43, v44, hc45, hf⟩ := bd2_of hf
            refine r_Si (pc := 163) (ws' := [((q 0), ob 4 [.ref (q 1), .ref (q 2), .ref (q 3), .ref (q 4), .ref (q 5), .ref (q 6), .ref (q 7), .int (Qu_firstLoad v), .int (Qu_loads v), .int (Qu_firstBranch v), .int (Qu_branches v), .int (Qu_held v), .int (Qu_comparedHeld v)]), ((q 1), aI K 8 (Qu_loadAddress v)), ((q 2), aI K 8 (Qu_loadWord v)), ((q 3), aI K 8 (Qu_branch v)), ((q 4), aI K 8 v44), ((q 5), aI K 8 (Qu_heldWord v)), ((q 6), aI K 8 (Qu_besideAddress v)), ((q 7), aI K 8 (Qu_besideWord v))]) cx [.ref (q 4), .int a2, .int (0 : Int32), .int a3] [] [4] (m_Qu_flipIn l D K (fun i => q (i + 4)) (Qu_heldAddress v) a2 (0 : Int32) a3 hc45) ys_X5_flipIn wd_945 ⟨rfl, rfl⟩ (by decide) rfl rfl rfl (by decide) rfl (Nat.le_of_ble_eq_true rfl) dX5_flipQueued_163 ?_
            obtain ⟨h46, hf⟩ := chk_of hf
            cases hf
            exact r_zret (pc := 166) cx h46 rfl rfl dX5_flipQueued_166
          · have hf := ifn h42 hf
            refine r_iload_n (pc := 151) cx dX5_flipQueued_151 3 rfl ?_
            refine r_bipush (pc := 152) cx dX5_flipQueued_152 bp_6 ?_
            refine r_icmp_ge (pc := 154) (tgt := 161) cx dX5_flipQueued_154 (by decide) (fun h47 => ?_) (fun h47 => ?_)
            · have hf := ifp h47 hf
              refine r_iconst (pc := 161) cx dX5_flipQueued_161 ic_0 ?_
              refine r_iload_n (pc := 162) cx dX5_flipQueued_162 3 rfl ?_
              obtain ⟨r48, v49, hc50, hf⟩ := bd2_of hf
              refine r_Si (pc := 163) (ws' := [((q 0), ob 4 [.ref (q 1), .ref (q 2), .ref (q 3), .ref (q 4), .ref (q 5), .ref (q 6), .ref (q 7), .int (Qu_firstLoad v), .int (Qu_loads v), .int (Qu_firstBranch v), .int (Qu_branches v), .int (Qu_held v), .int (Qu_comparedHeld v)]), ((q 1), aI K 8 (Qu_loadAddress v)), ((q 2), aI K 8 (Qu_loadWord v)), ((q 3), aI K 8 (Qu_branch v)), ((q 4), aI K 8 v49), ((q 5), aI K 8 (Qu_heldWord v)), ((q 6), aI K 8 (Qu_besideAddress v)), ((q 7), aI K 8 (Qu_besideWord v))]) cx [.ref (q 4), .int a2, .int (0 : Int32), .int a3] [] [4] (m_Qu_flipIn l D K (fun i => q (i + 4)) (Qu_heldAddress v) a2 (0 : Int32) a3 hc50) ys_X5_flipIn wd_945 ⟨rfl, rfl⟩ (by decide) rfl rfl rfl (by decide) rfl (Nat.le_of_ble_eq_true rfl) dX5_flipQueued_163 ?_
              obtain ⟨h51, hf⟩ := chk_of hf
              cases hf
              exact r_zret (pc := 166) cx h51 rfl rfl dX5_flipQueued_166
            · have hf := ifn h47 hf
              refine r_iconst (pc := 157) cx dX5_flipQueued_157 ic_1 ?_
              refine r_goto (pc := 158) (tgt := 162) cx dX5_flipQueued_158 (by decide) ?_
              refine r_iload_n (pc := 162) cx dX5_flipQueued_162 3 rfl ?_
              obtain ⟨r52, v53, hc54, hf⟩ := bd2_of hf
              refine r_Si (pc := 163) (ws' := [((q 0), ob 4 [.ref (q 1), .ref (q 2), .ref (q 3), .ref (q 4), .ref (q 5), .ref (q 6), .ref (q 7), .int (Qu_firstLoad v), .int (Qu_loads v), .int (Qu_firstBranch v), .int (Qu_branches v), .int (Qu_held v), .int (Qu_comparedHeld v)]), ((q 1), aI K 8 (Qu_loadAddress v)), ((q 2), aI K 8 (Qu_loadWord v)), ((q 3), aI K 8 (Qu_branch v)), ((q 4), aI K 8 v53), ((q 5), aI K 8 (Qu_heldWord v)), ((q 6), aI K 8 (Qu_besideAddress v)), ((q 7), aI K 8 (Qu_besideWord v))]) cx [.ref (q 4), .int a2, .int (1 : Int32), .int a3] [] [4] (m_Qu_flipIn l D K (fun i => q (i + 4)) (Qu_heldAddress v) a2 (1 : Int32) a3 hc54) ys_X5_flipIn wd_945 ⟨rfl, rfl⟩ (by decide) rfl rfl rfl (by decide) rfl (Nat.le_of_ble_eq_true rfl) dX5_flipQueued_163 ?_
              obtain ⟨h55, hf⟩ := chk_of hf
              cases hf
              exact r_zret (pc := 166) cx h55 rfl rfl dX5_flipQueued_166
        · have hf := ifn h41 hf
          by_cases h56 : a1 = (10 : Int32)
          · have hf := ifp h56 hf
            refine r_tin (pc := 1) (tgt := 167) cx (10 : Int32) h56 dX5_flipQueued_1 (by decide) (by decide) rfl (by decide) ?_
            refine r_aload_n (pc := 167) cx dX5_flipQueued_167 0 rfl ?_
            refine r_get (pc := 168) cx cf_X5 0 4 rfl (by decide) rfl wd_348 dX5_flipQueued_168 ?_
            refine r_iload_n (pc := 171) cx dX5_flipQueued_171 2 rfl ?_
            refine r_iload_n (pc := 172) cx dX5_flipQueued_172 2 rfl ?_
            refine r_aload_n (pc := 173) cx dX5_flipQueued_173 0 rfl ?_
            refine r_get (pc := 174) cx cf_X5 0 11 rfl (by decide) rfl wd_360 dX5_flipQueued_174 ?_
            refine r_icmp_ge (pc := 177) (tgt := 184) cx dX5_flipQueued_177 (by decide) (fun h57 => ?_) (fun h57 => ?_)
            · have hf := ifp h57 hf
              refine r_iconst (pc := 184) cx dX5_flipQueued_184 ic_0 ?_
              refine r_iload_n (pc := 185) cx dX5_flipQueued_185 3 rfl ?_
              obtain ⟨r58, v59, hc60, hf⟩ := bd2_of hf
              refine r_Si (pc := 186) (ws' := [((q 0), ob 4 [.ref (q 1), .ref (q 2), .ref (q 3), .ref (q 4), .ref (q 5), .ref (q 6), .ref (q 7), .int (Qu_firstLoad v), .int (Qu_loads v), .int (Qu_firstBranch v), .int (Qu_branches v), .int (Qu_held v), .int (Qu_comparedHeld v)]), ((q 1), aI K 8 (Qu_loadAddress v)), ((q 2), aI K 8 (Qu_loadWord v)), ((q 3), aI K 8 (Qu_branch v)), ((q 4), aI K 8 (Qu_heldAddress v)), ((q 5), aI K 8 v59), ((q 6), aI K 8 (Qu_besideAddress v)), ((q 7), aI K 8 (Qu_besideWord v))]) cx [.ref (q 5), .int a2, .int (0 : Int32), .int a3] [] [5] (m_Qu_flipIn l D K (fun i => q (i + 5)) (Qu_heldWord v) a2 (0 : Int32) a3 hc60) ys_X5_flipIn wd_945 ⟨rfl, rfl⟩ (by decide) rfl rfl rfl (by decide) rfl (Nat.le_of_ble_eq_true rfl) dX5_flipQueued_186 ?_
              obtain ⟨h61, hf⟩ := chk_of hf
              cases hf
              exact r_zret (pc := 189) cx h61 rfl rfl dX5_flipQueued_189
            · have hf := ifn h57 hf
              refine r_iconst (pc := 180) cx dX5_flipQueued_180 ic_1 ?_
              refine r_goto (pc := 181) (tgt := 185) cx dX5_flipQueued_181 (by decide) ?_
              refine r_iload_n (pc := 185) cx dX5_flipQueued_185 3 rfl ?_
              obtain ⟨r62, v63, hc64, hf⟩ := bd2_of hf
              refine r_Si (pc := 186) (ws' := [((q 0), ob 4 [.ref (q 1), .ref (q 2), .ref (q 3), .ref (q 4), .ref (q 5), .ref (q 6), .ref (q 7), .int (Qu_firstLoad v), .int (Qu_loads v), .int (Qu_firstBranch v), .int (Qu_branches v), .int (Qu_held v), .int (Qu_comparedHeld v)]), ((q 1), aI K 8 (Qu_loadAddress v)), ((q 2), aI K 8 (Qu_loadWord v)), ((q 3), aI K 8 (Qu_branch v)), ((q 4), aI K 8 (Qu_heldAddress v)), ((q 5), aI K 8 v63), ((q 6), aI K 8 (Qu_besideAddress v)), ((q 7), aI K 8 (Qu_besideWord v))]) cx [.ref (q 5), .int a2, .int (1 : Int32), .int a3] [] [5] (m_Qu_flipIn l D K (fun i => q (i + 5)) (Qu_heldWord v) a2 (1 : Int32) a3 hc64) ys_X5_flipIn wd_945 ⟨rfl, rfl⟩ (by decide) rfl rfl rfl (by decide) rfl (Nat.le_of_ble_eq_true rfl) dX5_flipQueued_186 ?_
              obtain ⟨h65, hf⟩ := chk_of hf
              cases hf
              exact r_zret (pc := 189) cx h65 rfl rfl dX5_flipQueued_189
          · have hf := ifn h56 hf
            by_cases h66 : a1 = (11 : Int32)
            · have hf := ifp h66 hf
              refine r_tin (pc := 1) (tgt := 190) cx (11 : Int32) h66 dX5_flipQueued_1 (by decide) (by decide) rfl (by decide) ?_
              refine r_aload_n (pc := 190) cx dX5_flipQueued_190 0 rfl ?_
              refine r_get (pc := 191) cx cf_X5 0 5 rfl (by decide) rfl wd_350 dX5_flipQueued_191 ?_
              refine r_iload_n (pc := 194) cx dX5_flipQueued_194 2 rfl ?_
              refine r_iload_n (pc := 195) cx dX5_flipQueued_195 2 rfl ?_
              refine r_aload_n (pc := 196) cx dX5_flipQueued_196 0 rfl ?_
              refine r_get (pc := 197) cx cf_X5 0 12 rfl (by decide) rfl wd_363 dX5_flipQueued_197 ?_
              refine r_icmp_ge (pc := 200) (tgt := 213) cx dX5_flipQueued_200 (by decide) (fun h67 => ?_) (fun h67 => ?_)
              · have hf := ifp h67 hf
                refine r_iconst (pc := 213) cx dX5_flipQueued_213 ic_0 ?_
                refine r_iload_n (pc := 214) cx dX5_flipQueued_214 3 rfl ?_
                obtain ⟨r68, v69, hc70, hf⟩ := bd2_of hf
                refine r_Si (pc := 215) (ws' := [((q 0), ob 4 [.ref (q 1), .ref (q 2), .ref (q 3), .ref (q 4), .ref (q 5), .ref (q 6), .ref (q 7), .int (Qu_firstLoad v), .int (Qu_loads v), .int (Qu_firstBranch v), .int (Qu_branches v), .int (Qu_held v), .int (Qu_comparedHeld v)]), ((q 1), aI K 8 (Qu_loadAddress v)), ((q 2), aI K 8 (Qu_loadWord v)), ((q 3), aI K 8 (Qu_branch v)), ((q 4), aI K 8 (Qu_heldAddress v)), ((q 5), aI K 8 (Qu_heldWord v)), ((q 6), aI K 8 v69), ((q 7), aI K 8 (Qu_besideWord v))]) cx [.ref (q 6), .int a2, .int (0 : Int32), .int a3] [] [6] (m_Qu_flipIn l D K (fun i => q (i + 6)) (Qu_besideAddress v) a2 (0 : Int32) a3 hc70) ys_X5_flipIn wd_945 ⟨rfl, rfl⟩ (by decide) rfl rfl rfl (by decide) rfl (Nat.le_of_ble_eq_true rfl) dX5_flipQueued_215 ?_
                obtain ⟨h71, hf⟩ := chk_of hf
                cases hf
                exact r_zret (pc := 218) cx h71 rfl rfl dX5_flipQueued_218
              · have hf := ifn h67 hf
                refine r_iload_n (pc := 203) cx dX5_flipQueued_203 3 rfl ?_
                refine r_bipush (pc := 204) cx dX5_flipQueued_204 bp_6 ?_
                refine r_icmp_ge (pc := 206) (tgt := 213) cx dX5_flipQueued_206 (by decide) (fun h72 => ?_) (fun h72 => ?_)
                · have hf := ifp h72 hf
                  refine r_iconst (pc := 213) cx dX5_flipQueued_213 ic_0 ?_
                  refine r_iload_n (pc := 214) cx dX5_flipQueued_214 3 rfl ?_
                  obtain ⟨r73, v74, hc75, hf⟩ := bd2_of hf
                  refine r_Si (pc := 215) (ws' := [((q 0), ob 4 [.ref (q 1), .ref (q 2), .ref (q 3), .ref (q 4), .ref (q 5), .ref (q 6), .ref (q 7), .int (Qu_firstLoad v), .int (Qu_loads v), .int (Qu_firstBranch v), .int (Qu_branches v), .int (Qu_held v), .int (Qu_comparedHeld v)]), ((q 1), aI K 8 (Qu_loadAddress v)), ((q 2), aI K 8 (Qu_loadWord v)), ((q 3), aI K 8 (Qu_branch v)), ((q 4), aI K 8 (Qu_heldAddress v)), ((q 5), aI K 8 (Qu_heldWord v)), ((q 6), aI K 8 v74), ((q 7), aI K 8 (Qu_besideWord v))]) cx [.ref (q 6), .int a2, .int (0 : Int32), .int a3] [] [6] (m_Qu_flipIn l D K (fun i => q (i + 6)) (Qu_besideAddress v) a2 (0 : Int32) a3 hc75) ys_X5_flipIn wd_945 ⟨rfl, rfl⟩ (by decide) rfl rfl rfl (by decide) rfl (Nat.le_of_ble_eq_true rfl) dX5_flipQueued_215 ?_
                  obtain ⟨h76, hf⟩ := chk_of hf
                  cases hf
                  exact r_zret (pc := 218) cx h76 rfl rfl dX5_flipQueued_218
                · have hf := ifn h72 hf
                  refine r_iconst (pc := 209) cx dX5_flipQueued_209 ic_1 ?_
                  refine r_goto (pc := 210) (tgt := 214) cx dX5_flipQueued_210 (by decide) ?_
                  refine r_iload_n (pc := 214) cx dX5_flipQueued_214 3 rfl ?_
                  obtain ⟨r77, v78, hc79, hf⟩ := bd2_of hf
                  refine r_Si (pc := 215) (ws' := [((q 0), ob 4 [.ref (q 1), .ref (q 2), .ref (q 3), .ref (q 4), .ref (q 5), .ref (q 6), .ref (q 7), .int (Qu_firstLoad v), .int (Qu_loads v), .int (Qu_firstBranch v), .int (Qu_branches v), .int (Qu_held v), .int (Qu_comparedHeld v)]), ((q 1), aI K 8 (Qu_loadAddress v)), ((q 2), aI K 8 (Qu_loadWord v)), ((q 3), aI K 8 (Qu_branch v)), ((q 4), aI K 8 (Qu_heldAddress v)), ((q 5), aI K 8 (Qu_heldWord v)), ((q 6), aI K 8 v78), ((q 7), aI K 8 (Qu_besideWord v))]) cx [.ref (q 6), .int a2, .int (1 : Int32), .int a3] [] [6] (m_Qu_flipIn l D K (fun i => q (i + 6)) (Qu_besideAddress v) a2 (1 : Int32) a3 hc79) ys_X5_flipIn wd_945 ⟨rfl, rfl⟩ (by decide) rfl rfl rfl (by decide) rfl (Nat.le_of_ble_eq_true rfl) dX5_flipQueued_215 ?_
                  obtain ⟨h80, hf⟩ := chk_of hf
                  cases hf
                  exact r_zret (pc := 218) cx h80 rfl rfl dX5_flipQueued_218
            · have hf := ifn h66 hf
              by_cases h81 : a1 = (12 : Int32)
              · have hf := ifp h81 hf
                refine r_tin (pc := 1) (tgt := 219) cx (12 : Int32) h81 dX5_flipQueued_1 (by decide) (by decide) rfl (by decide) ?_
                refine r_aload_n (pc := 219) cx dX5_flipQueued_219 0 rfl ?_
                refine r_get (pc := 220) cx cf_X5 0 6 rfl (by decide) rfl wd_351 dX5_flipQueued_220 ?_
                refine r_iload_n (pc := 223) cx dX5_flipQueued_223 2 rfl ?_
                refine r_iload_n (pc := 224) cx dX5_flipQueued_224 2 rfl ?_
                refine r_aload_n (pc := 225) cx dX5_flipQueued_225 0 rfl ?_
                refine r_get (pc := 226) cx cf_X5 0 12 rfl (by decide) rfl wd_363 dX5_flipQueued_226 ?_
                refine r_icmp_ge (pc := 229) (tgt := 236) cx dX5_flipQueued_229 (by decide) (fun h82 => ?_) (fun h82 => ?_)
                · have hf := ifp h82 hf
                  refine r_iconst (pc := 236) cx dX5_flipQueued_236 ic_0 ?_
                  refine r_iload_n (pc := 237) cx dX5_flipQueued_237 3 rfl ?_
                  obtain ⟨r83, v84, hc85, hf⟩ := bd2_of hf
                  refine r_Si (pc := 238) (ws' := [((q 0), ob 4 [.ref (q 1), .ref (q 2), .ref (q 3), .ref (q 4), .ref (q 5), .ref (q 6), .ref (q 7), .int (Qu_firstLoad v), .int (Qu_loads v), .int (Qu_firstBranch v), .int (Qu_branches v), .int (Qu_held v), .int (Qu_comparedHeld v)]), ((q 1), aI K 8 (Qu_loadAddress v)), ((q 2), aI K 8 (Qu_loadWord v)), ((q 3), aI K 8 (Qu_branch v)), ((q 4), aI K 8 (Qu_heldAddress v)), ((q 5), aI K 8 (Qu_heldWord v)), ((q 6), aI K 8 (Qu_besideAddress v)), ((q 7), aI K 8 v84)]) cx [.ref (q 7), .int a2, .int (0 : Int32), .int a3] [] [7] (m_Qu_flipIn l D K (fun i => q (i + 7)) (Qu_besideWord v) a2 (0 : Int32) a3 hc85) ys_X5_flipIn wd_945 ⟨rfl, rfl⟩ (by decide) rfl rfl rfl (by decide) rfl (Nat.le_of_ble_eq_true rfl) dX5_flipQueued_238 ?_
                  obtain ⟨h86, hf⟩ := chk_of hf
                  cases hf
                  exact r_zret (pc := 241) cx h86 rfl rfl dX5_flipQueued_241
                · have hf := ifn h82 hf
                  refine r_iconst (pc := 232) cx dX5_flipQueued_232 ic_1 ?_
                  refine r_goto (pc := 233) (tgt := 237) cx dX5_flipQueued_233 (by decide) ?_
                  refine r_iload_n (pc := 237) cx dX5_flipQueued_237 3 rfl ?_
                  obtain ⟨r87, v88, hc89, hf⟩ := bd2_of hf
                  refine r_Si (pc := 238) (ws' := [((q 0), ob 4 [.ref (q 1), .ref (q 2), .ref (q 3), .ref (q 4), .ref (q 5), .ref (q 6), .ref (q 7), .int (Qu_firstLoad v), .int (Qu_loads v), .int (Qu_firstBranch v), .int (Qu_branches v), .int (Qu_held v), .int (Qu_comparedHeld v)]), ((q 1), aI K 8 (Qu_loadAddress v)), ((q 2), aI K 8 (Qu_loadWord v)), ((q 3), aI K 8 (Qu_branch v)), ((q 4), aI K 8 (Qu_heldAddress v)), ((q 5), aI K 8 (Qu_heldWord v)), ((q 6), aI K 8 (Qu_besideAddress v)), ((q 7), aI K 8 v88)]) cx [.ref (q 7), .int a2, .int (1 : Int32), .int a3] [] [7] (m_Qu_flipIn l D K (fun i => q (i + 7)) (Qu_besideWord v) a2 (1 : Int32) a3 hc89) ys_X5_flipIn wd_945 ⟨rfl, rfl⟩ (by decide) rfl rfl rfl (by decide) rfl (Nat.le_of_ble_eq_true rfl) dX5_flipQueued_238 ?_
                  obtain ⟨h90, hf⟩ := chk_of hf
                  cases hf
                  exact r_zret (pc := 241) cx h90 rfl rfl dX5_flipQueued_241
              · have hf := ifn h81 hf
                refine r_tout (pc := 1) (tgt := 242) cx dX5_flipQueued_1 (by
                  have nh1 := toInt_ne h1
                  have mh1 : (6 : Int32).toInt = 6 := by decide
                  rw [mh1] at nh1
                  have nh16 := toInt_ne h16
                  have mh16 : (7 : Int32).toInt = 7 := by decide
                  rw [mh16] at nh16
                  have nh26 := toInt_ne h26
                  have mh26 : (8 : Int32).toInt = 8 := by decide
                  rw [mh26] at nh26
                  have nh41 := toInt_ne h41
                  have mh41 : (9 : Int32).toInt = 9 := by decide
                  rw [mh41] at nh41
                  have nh56 := toInt_ne h56
                  have mh56 : (10 : Int32).toInt = 10 := by decide
                  rw [mh56] at nh56
                  have nh66 := toInt_ne h66
                  have mh66 : (11 : Int32).toInt = 11 := by decide
                  rw [mh66] at nh66
                  have nh81 := toInt_ne h81
                  have mh81 : (12 : Int32).toInt = 12 := by decide
                  rw [mh81] at nh81
                  omega) (by decide) ?_
                refine r_iconst (pc := 242) cx dX5_flipQueued_242 ic_0 ?_
                cases hf
                exact r_zret (pc := 243) cx (Or.inl rfl) rfl rfl dX5_flipQueued_243
theorem yv_X5_flipQueued : YV yX5_flipQueued cX5_flipQueued 4 (some .boolean) 3 := ⟨⟨by decide +kernel, by decide +kernel, by decide +kernel⟩, wd_944, wd_97, wd_942, wd_943⟩
def f_Qu_loadPart (v : T_Qu) (a1 : Int32) (a2 : Int32) : Option (Int32) :=
  (if a1 < (0 : Int32) then (some (0 : Int32)) else (if a1 < (Qu_loads v) then (nm (((Qu_firstLoad v) + a1) &&& (7 : Int32)) fun (x3 : Int32) => (if a2 = (0 : Int32) then (some ((Qu_loadAddress v) x3.toNatClampNeg)) else (if a2 = (1 : Int32) then (some ((Qu_loadWord v) x3.toNatClampNeg)) else (some (0 : Int32))))) else (some (0 : Int32))))
abbrev rm_Qu_loadPart : Room := { frames := 0, cells := 0, slots := 0, locals := 0 }
set_option maxRecDepth 100000 in
set_option maxHeartbeats 4000000 in
theorem m_Qu_loadPart (l : Launch) (D : va_G) (K : Nat → ClassId) (q : Nat → Nat) (v : T_Qu) (a1 : Int32) (a2 : Int32) {r_ : Int32} (hf : f_Qu_loadPart v a1 a2 = some r_) : MI l yX5_loadPart cX5_loadPart 4 (some .int) rm_Qu_loadPart D K [.ref (q 0), .int a1, .int a2] (cl_Qu K q v) r_ (cl_Qu K q v) := by
  refine MI_of (loc0 := [(0, .ref (q 0)), (1, .int a1), (2, .int a2)]) (by decide +kernel) rfl (Nat.le_of_ble_eq_true rfl) ?_
  intro p e s m args below meth c A cx
  unfold f_Qu_loadPart at hf
  refine r_ws (ws' := [((q 0), ob 4 [.ref (q 1), .ref (q 2), .ref (q 3), .ref (q 4), .ref (q 5), .ref (q 6), .ref (q 7), .int (Qu_firstLoad v), .int (Qu_loads v), .int (Qu_firstBranch v), .int (Qu_branches v), .int (Qu_held v), .int (Qu_comparedHeld v)]), ((q 1), aI K 8 (Qu_loadAddress v)), ((q 2), aI K 8 (Qu_loadWord v)), ((q 3), aI K 8 (Qu_branch v)), ((q 4), aI K 8 (Qu_heldAddress v)), ((q 5), aI K 8 (Qu_heldWord v)), ((q 6), aI K 8 (Qu_besideAddress v)), ((q 7), aI K 8 (Qu_besideWord v))]) rfl ?_
  refine r_iload_n (pc := 0) cx dX5_loadPart_0 1 rfl ?_
  refine r_if_lt (pc := 1) (tgt := 12) cx dX5_loadPart_1 (by decide) (fun h1 => ?_) (fun h1 => ?_)
  · have hf := ifp h1 hf
    refine r_iconst (pc := 12) cx dX5_loadPart_12 ic_0 ?_
    cases hf
    exact r_iret (pc := 13) cx rfl rfl dX5_loadPart_13
  · have hf := ifn h1 hf
    refine r_iload_n (pc := 4) cx dX5_loadPart_4 1 rfl ?_
    refine r_aload_n (pc := 5) cx dX5_loadPart_5 0 rfl ?_
    refine r_get (pc := 6) cx cf_X5 0 8 rfl (by decide) rfl wd_353 dX5_loadPart_6 ?_
    refine r_icmp_lt (pc := 9) (tgt := 14) cx dX5_loadPart_9 (by decide) (fun h2 => ?_) (fun h2 => ?_)
    · have hf := ifp h2 hf
      refine r_aload_n (pc := 14) cx dX5_loadPart_14 0 rfl ?_
      refine r_get (pc := 15) cx cf_X5 0 7 rfl (by decide) rfl wd_352 dX5_loadPart_15 ?_
      refine r_iload_n (pc := 18) cx dX5_loadPart_18 1 rfl ?_
      refine r_iadd (pc := 19) cx dX5_loadPart_19 ?_
      refine r_bipush (pc := 20) cx dX5_loadPart_20 bp_7 ?_
      refine r_iand (pc := 22) cx dX5_loadPart_22 ?_
      obtain ⟨x3, ex3, hf⟩ := nm_of hf
      refine r_nm ex3 ?_
      refine r_istore_n (pc := 23) (loc' := [(3, .int x3), (0, .ref (q 0)), (1, .int a1), (2, .int a2)]) cx dX5_loadPart_23 rfl (by decide) rfl ?_
      refine r_iload_n (pc := 24) cx dX5_loadPart_24 3 rfl ?_
      refine r_if_ne (pc := 25) (tgt := 35) cx dX5_loadPart_25 (by decide) (fun h4 => ?_) (fun h4 => ?_)
      · have hf := ifn h4 hf
        refine r_iload_n (pc := 35) cx dX5_loadPart_35 3 rfl ?_
        refine r_iconst (pc := 36) cx dX5_loadPart_36 ic_1 ?_
        refine r_icmp_ne (pc := 37) (tgt := 49) cx dX5_loadPart_37 (by decide) (fun h5 => ?_) (fun h5 => ?_)
        · have hf := ifn h5 hf
          refine r_iconst (pc := 49) cx dX5_loadPart_49 ic_0 ?_
          cases hf
          exact r_iret (pc := 50) cx rfl rfl dX5_loadPart_50
        · have hf := ifp h5 hf
          refine r_aload_n (pc := 40) cx dX5_loadPart_40 1 rfl ?_
          refine r_get (pc := 41) cx cf_X5 0 1 rfl (by decide) rfl wd_344 dX5_loadPart_41 ?_
          refine r_iload_n (pc := 44) cx dX5_loadPart_44 0 rfl ?_
          refine r_iald (pc := 45) cx 2 rfl (by rw [ex3]; exact ix_and7 _) dX5_loadPart_45 ?_
          refine r_goto (pc := 46) (tgt := 50) cx dX5_loadPart_46 (by decide) ?_
          cases hf
          exact r_iret (pc := 50) cx rfl rfl dX5_loadPart_50
      · have hf := ifp h4 hf
        refine r_aload_n (pc := 28) cx dX5_loadPart_28 1 rfl ?_
        refine r_get (pc := 29) cx cf_X5 0 0 rfl (by decide) rfl wd_343 dX5_loadPart_29 ?_
        refine r_iload_n (pc := 32) cx dX5_loadPart_32 0 rfl ?_
        refine r_iald (pc := 33) cx 1 rfl (by rw [ex3]; exact ix_and7 _) dX5_loadPart_33 ?_
        cases hf
        exact r_iret (pc := 34) cx rfl rfl dX5_loadPart_34
    · have hf := ifn h2 hf
      refine r_iconst (pc := 12) cx dX5_loadPart_12 ic_0 ?_
      cases hf
      exact r_iret (pc := 13) cx rfl rfl dX5_loadPart_13
theorem yv_X5_loadPart : YV yX5_loadPart cX5_loadPart 4 (some .int) 2 := ⟨⟨by decide +kernel, by decide +kernel, by decide +kernel⟩, wd_976, wd_97, wd_974, wd_975⟩
def f_Qu_branchPart (v : T_Qu) (a1 : Int32) (a2 : Int32) : Option (Int32) :=
  (if a1 < (0 : Int32) then (some (0 : Int32)) else (if (Qu_branches v) ≤ a1 then (some (0 : Int32)) else (if a2 = (0 : Int32) then (some ((Qu_branch v) ((((Qu_firstBranch v) + a1) &&& (7 : Int32))).toNatClampNeg)) else (some (0 : Int32)))))
abbrev rm_Qu_branchPart : Room := { frames := 0, cells := 0, slots := 0, locals := 0 }
set_option maxRecDepth 100000 in
set_option maxHeartbeats 4000000 in
theorem m_Qu_branchPart (l : Launch) (D : va_G) (K : Nat → ClassId) (q : Nat → Nat) (v : T_Qu) (a1 : Int32) (a2 : Int32) {r_ : Int32} (hf : f_Qu_branchPart v a1 a2 = some r_) : MI l yX5_branchPart cX5_branchPart 3 (some .int) rm_Qu_branchPart D K [.ref (q 0), .int a1, .int a2] (cl_Qu K q v) r_ (cl_Qu K q v) := by
  refine MI_of (loc0 := [(0, .ref (q 0)), (1, .int a1), (2, .int a2)]) (by decide +kernel) rfl (Nat.le_of_ble_eq_true rfl) ?_
  intro p e s m args below meth c A cx
  unfold f_Qu_branchPart at hf
  refine r_ws (ws' := [((q 0), ob 4 [.ref (q 1), .ref (q 2), .ref (q 3), .ref (q 4), .ref (q 5), .ref (q 6), .ref (q 7), .int (Qu_firstLoad v), .int (Qu_loads v), .int (Qu_firstBranch v), .int (Qu_branches v), .int (Qu_held v), .int (Qu_comparedHeld v)]), ((q 1), aI K 8 (Qu_loadAddress v)), ((q 2), aI K 8 (Qu_loadWord v)), ((q 3), aI K 8 (Qu_branch v)), ((q 4), aI K 8 (Qu_heldAddress v)), ((q 5), aI K 8 (Qu_heldWord v)), ((q 6), aI K 8 (Qu_besideAddress v)), ((q 7), aI K 8 (Qu_besideWord v))]) rfl ?_
  refine r_iload_n (pc := 0) cx dX5_branchPart_0 1 rfl ?_
  refine r_if_lt (pc := 1) (tgt := 16) cx dX5_branchPart_1 (by decide) (fun h1 => ?_) (fun h1 => ?_)
  · have hf := ifp h1 hf
    refine r_iconst (pc := 16) cx dX5_branchPart_16 ic_0 ?_
    refine r_goto (pc := 17) (tgt := 34) cx dX5_branchPart_17 (by decide) ?_
    cases hf
    exact r_iret (pc := 34) cx rfl rfl dX5_branchPart_34
  · have hf := ifn h1 hf
    refine r_iload_n (pc := 4) cx dX5_branchPart_4 1 rfl ?_
    refine r_aload_n (pc := 5) cx dX5_branchPart_5 0 rfl ?_
    refine r_get (pc := 6) cx cf_X5 0 10 rfl (by decide) rfl wd_357 dX5_branchPart_6 ?_
    refine r_icmp_ge (pc := 9) (tgt := 16) cx dX5_branchPart_9 (by decide) (fun h2 => ?_) (fun h2 => ?_)
    · have hf := ifp h2 hf
      refine r_iconst (pc := 16) cx dX5_branchPart_16 ic_0 ?_
      refine r_goto (pc := 17) (tgt := 34) cx dX5_branchPart_17 (by decide) ?_
      cases hf
      exact r_iret (pc := 34) cx rfl rfl dX5_branchPart_34
    · have hf := ifn h2 hf
      refine r_iload_n (pc := 12) cx dX5_branchPart_12 2 rfl ?_
      refine r_if_eq (pc := 13) (tgt := 20) cx dX5_branchPart_13 (by decide) (fun h3 => ?_) (fun h3 => ?_)
      · have hf := ifp h3 hf
        refine r_aload_n (pc := 20) cx dX5_branchPart_20 0 rfl ?_
        refine r_get (pc := 21) cx cf_X5 0 2 rfl (by decide) rfl wd_345 dX5_branchPart_21 ?_
        refine r_aload_n (pc := 24) cx dX5_branchPart_24 0 rfl ?_
        refine r_get (pc := 25) cx cf_X5 0 9 rfl (by decide) rfl wd_356 dX5_branchPart_25 ?_
        refine r_iload_n (pc := 28) cx dX5_branchPart_28 1 rfl ?_
        refine r_iadd (pc := 29) cx dX5_branchPart_29 ?_
        refine r_bipush (pc := 30) cx dX5_branchPart_30 bp_7 ?_
        refine r_iand (pc := 32) cx dX5_branchPart_32 ?_
        refine r_iald (pc := 33) cx 3 rfl (ix_and7 _) dX5_branchPart_33 ?_
        cases hf
        exact r_iret (pc := 34) cx rfl rfl dX5_branchPart_34
      · have hf := ifn h3 hf
        refine r_iconst (pc := 16) cx dX5_branchPart_16 ic_0 ?_
        refine r_goto (pc := 17) (tgt := 34) cx dX5_branchPart_17 (by decide) ?_
        cases hf
        exact r_iret (pc := 34) cx rfl rfl dX5_branchPart_34
theorem yv_X5_branchPart : YV yX5_branchPart cX5_branchPart 3 (some .int) 2 := ⟨⟨by decide +kernel, by decide +kernel, by decide +kernel⟩, wd_980, wd_97, wd_978, wd_979⟩
def f_Qu_heldPart (v : T_Qu) (a1 : Int32) (a2 : Int32) : Option (Int32) :=
  (if a1 < (0 : Int32) then (some (0 : Int32)) else (if (Qu_held v) ≤ a1 then (some (0 : Int32)) else (if a1 ≤ (7 : Int32) then (nm (fun (y4 : Int32) => ((if a2 = (0 : Int32) then (if ix a1 8 then (some ((Qu_heldAddress v) a1.toNatClampNeg)) else none) else (if a2 = (1 : Int32) then (if ix a1 8 then (some ((Qu_heldWord v) a1.toNatClampNeg)) else none) else (if a2 = (2 : Int32) then (if y4 = (0 : Int32) then (some (0 : Int32)) else (some (1 : Int32))) else (if a2 = (3 : Int32) then (if y4 = (0 : Int32) then (some (0 : Int32)) else (if ix a1 8 then (some ((Qu_besideAddress v) a1.toNatClampNeg)) else none)) else (if a2 = (4 : Int32) then (if y4 = (0 : Int32) then (some (0 : Int32)) else (if ix a1 8 then (some ((Qu_besideWord v) a1.toNatClampNeg)) else none)) else (some (0 : Int32))))))) : Option (Int32))) fun J5 => (if (Qu_comparedHeld v) ≤ a1 then (J5 (0 : Int32)) else (J5 (1 : Int32)))) else (some (0 : Int32)))))
abbrev rm_Qu_heldPart : Room := { frames := 0, cells := 0, slots := 0, locals := 0 }
set_option maxRecDepth 100000 in
set_option maxHeartbeats 4000000 in
theorem m_Qu_heldPart (l : Launch) (D : va_G) (K : Nat → ClassId) (q : Nat → Nat) (v : T_Qu) (a1 : Int32) (a2 : Int32) {r_ : Int32} (hf : f_Qu_heldPart v a1 a2 = some r_) : MI l yX5_heldPart cX5_heldPart 4 (some .int) rm_Qu_heldPart D K [.ref (q 0), .int a1, .int a2] (cl_Qu K q v) r_ (cl_Qu K q v) := by
  refine MI_of (loc0 := [(0, .ref (q 0)), (1, .int a1), (2, .int a2)]) (by decide +kernel) rfl (Nat.le_of_ble_eq_true rfl) ?_
  intro p e s m args below meth c A cx
  unfold f_Qu_heldPart at hf
  refine r_ws (ws' := [((q 0), ob 4 [.ref (q 1), .ref (q 2), .ref (q 3), .ref (q 4), .ref (q 5), .ref (q 6), .ref (q 7), .int (Qu_firstLoad v), .int (Qu_loads v), .int (Qu_firstBranch v), .int (Qu_branches v), .int (Qu_held v), .int (Qu_comparedHeld v)]), ((q 1), aI K 8 (Qu_loadAddress v)), ((q 2), aI K 8 (Qu_loadWord v)), ((q 3), aI K 8 (Qu_branch v)), ((q 4), aI K 8 (Qu_heldAddress v)), ((q 5), aI K 8 (Qu_heldWord v)), ((q 6), aI K 8 (Qu_besideAddress v)), ((q 7), aI K 8 (Qu_besideWord v))]) rfl ?_
  refine r_iload_n (pc := 0) cx dX5_heldPart_0 1 rfl ?_
  refine r_if_lt (pc := 1) (tgt := 18) cx dX5_heldPart_1 (by decide) (fun h1 => ?_) (fun h1 => ?_)
  · have hf := ifp h1 hf
    refine r_iconst (pc := 18) cx dX5_heldPart_18 ic_0 ?_
    cases hf
    exact r_iret (pc := 19) cx rfl rfl dX5_heldPart_19
  · have hf := ifn h1 hf
    refine r_iload_n (pc := 4) cx dX5_heldPart_4 1 rfl ?_
    refine r_aload_n (pc := 5) cx dX5_heldPart_5 0 rfl ?_
    refine r_get (pc := 6) cx cf_X5 0 11 rfl (by decide) rfl wd_360 dX5_heldPart_6 ?_
    refine r_icmp_ge (pc := 9) (tgt := 18) cx dX5_heldPart_9 (by decide) (fun h2 => ?_) (fun h2 => ?_)
    · have hf := ifp h2 hf
      refine r_iconst (pc := 18) cx dX5_heldPart_18 ic_0 ?_
      cases hf
      exact r_iret (pc := 19) cx rfl rfl dX5_heldPart_19
    · have hf := ifn h2 hf
      refine r_iload_n (pc := 12) cx dX5_heldPart_12 1 rfl ?_
      refine r_bipush (pc := 13) cx dX5_heldPart_13 bp_7 ?_
      refine r_icmp_le (pc := 15) (tgt := 20) cx dX5_heldPart_15 (by decide) (fun h3 => ?_) (fun h3 => ?_)
      · have hf := ifp h3 hf
        refine r_iload_n (pc := 20) cx dX5_heldPart_20 1 rfl ?_
        refine r_aload_n (pc := 21) cx dX5_heldPart_21 0 rfl ?_
        refine r_get (pc := 22) cx cf_X5 0 12 rfl (by decide) rfl wd_363 dX5_heldPart_22 ?_
        obtain ⟨J5, eJ5, hf⟩ := nm_of hf
        have hJ5 : ∀ (y4 : Int32), J5 y4 = some r_ → WW p l e rm_Qu_heldPart s m args below meth c D A 4 0 0 (MQ below (QI D K A r_ (cl_Qu K q v)) args s 0 0 A) ([((q 0), ob 4 [.ref (q 1), .ref (q 2), .ref (q 3), .ref (q 4), .ref (q 5), .ref (q 6), .ref (q 7), .int (Qu_firstLoad v), .int (Qu_loads v), .int (Qu_firstBranch v), .int (Qu_branches v), .int (Qu_held v), .int (Qu_comparedHeld v)]), ((q 1), aI K 8 (Qu_loadAddress v)), ((q 2), aI K 8 (Qu_loadWord v)), ((q 3), aI K 8 (Qu_branch v)), ((q 4), aI K 8 (Qu_heldAddress v)), ((q 5), aI K 8 (Qu_heldWord v)), ((q 6), aI K 8 (Qu_besideAddress v)), ((q 7), aI K 8 (Qu_besideWord v))]) ([(0, .ref (q 0)), (1, .int a1), (2, .int a2)]) ([.int y4]) 33 := by
          intro y4 hf
          rw [eJ5] at hf
          refine r_istore_n (pc := 33) (loc' := [(3, .int y4), (0, .ref (q 0)), (1, .int a1), (2, .int a2)]) cx dX5_heldPart_33 rfl (by decide) rfl ?_
          refine r_iload_n (pc := 34) cx dX5_heldPart_34 3 rfl ?_
          by_cases h6 : a2 = (0 : Int32)
          · have hf := ifp h6 hf
            refine r_tin (pc := 35) (tgt := 68) cx (0 : Int32) h6 dX5_heldPart_35 (by decide) (by decide) rfl (by decide) ?_
            refine r_aload_n (pc := 68) cx dX5_heldPart_68 1 rfl ?_
            refine r_get (pc := 69) cx cf_X5 0 3 rfl (by decide) rfl wd_346 dX5_heldPart_69 ?_
            refine r_iload_n (pc := 72) cx dX5_heldPart_72 2 rfl ?_
            obtain ⟨h7, hf⟩ := chk_of hf
            refine r_iald (pc := 73) cx 4 rfl h7 dX5_heldPart_73 ?_
            cases hf
            exact r_iret (pc := 74) cx rfl rfl dX5_heldPart_74
          · have hf := ifn h6 hf
            by_cases h8 : a2 = (1 : Int32)
            · have hf := ifp h8 hf
              refine r_tin (pc := 35) (tgt := 75) cx (1 : Int32) h8 dX5_heldPart_35 (by decide) (by decide) rfl (by decide) ?_
              refine r_aload_n (pc := 75) cx dX5_heldPart_75 1 rfl ?_
              refine r_get (pc := 76) cx cf_X5 0 4 rfl (by decide) rfl wd_348 dX5_heldPart_76 ?_
              refine r_iload_n (pc := 79) cx dX5_heldPart_79 2 rfl ?_
              obtain ⟨h9, hf⟩ := chk_of hf
              refine r_iald (pc := 80) cx 5 rfl h9 dX5_heldPart_80 ?_
              cases hf
              exact r_iret (pc := 81) cx rfl rfl dX5_heldPart_81
            · have hf := ifn h8 hf
              by_cases h10 : a2 = (2 : Int32)
              · have hf := ifp h10 hf
                refine r_tin (pc := 35) (tgt := 82) cx (2 : Int32) h10 dX5_heldPart_35 (by decide) (by decide) rfl (by decide) ?_
                refine r_iload_n (pc := 82) cx dX5_heldPart_82 0 rfl ?_
                refine r_if_eq (pc := 83) (tgt := 90) cx dX5_heldPart_83 (by decide) (fun h11 => ?_) (fun h11 => ?_)
                · have hf := ifp h11 hf
                  refine r_iconst (pc := 90) cx dX5_heldPart_90 ic_0 ?_
                  cases hf
                  exact r_iret (pc := 91) cx rfl rfl dX5_heldPart_91
                · have hf := ifn h11 hf
                  refine r_iconst (pc := 86) cx dX5_heldPart_86 ic_1 ?_
                  refine r_goto (pc := 87) (tgt := 91) cx dX5_heldPart_87 (by decide) ?_
                  cases hf
                  exact r_iret (pc := 91) cx rfl rfl dX5_heldPart_91
              · have hf := ifn h10 hf
                by_cases h12 : a2 = (3 : Int32)
                · have hf := ifp h12 hf
                  refine r_tin (pc := 35) (tgt := 92) cx (3 : Int32) h12 dX5_heldPart_35 (by decide) (by decide) rfl (by decide) ?_
                  refine r_iload_n (pc := 92) cx dX5_heldPart_92 0 rfl ?_
                  refine r_if_eq (pc := 93) (tgt := 105) cx dX5_heldPart_93 (by decide) (fun h13 => ?_) (fun h13 => ?_)
                  · have hf := ifp h13 hf
                    refine r_iconst (pc := 105) cx dX5_heldPart_105 ic_0 ?_
                    cases hf
                    exact r_iret (pc := 106) cx rfl rfl dX5_heldPart_106
                  · have hf := ifn h13 hf
                    refine r_aload_n (pc := 96) cx dX5_heldPart_96 1 rfl ?_
                    refine r_get (pc := 97) cx cf_X5 0 5 rfl (by decide) rfl wd_350 dX5_heldPart_97 ?_
                    refine r_iload_n (pc := 100) cx dX5_heldPart_100 2 rfl ?_
                    obtain ⟨h14, hf⟩ := chk_of hf
                    refine r_iald (pc := 101) cx 6 rfl h14 dX5_heldPart_101 ?_
                    refine r_goto (pc := 102) (tgt := 106) cx dX5_heldPart_102 (by decide) ?_
                    cases hf
                    exact r_iret (pc := 106) cx rfl rfl dX5_heldPart_106
                · have hf := ifn h12 hf
                  by_cases h15 : a2 = (4 : Int32)
                  · have hf := ifp h15 hf
                    refine r_tin (pc := 35) (tgt := 107) cx (4 : Int32) h15 dX5_heldPart_35 (by decide) (by decide) rfl (by decide) ?_
                    refine r_iload_n (pc := 107) cx dX5_heldPart_107 0 rfl ?_
                    refine r_if_eq (pc := 108) (tgt := 120) cx dX5_heldPart_108 (by decide) (fun h16 => ?_) (fun h16 => ?_)
                    · have hf := ifp h16 hf
                      refine r_iconst (pc := 120) cx dX5_heldPart_120 ic_0 ?_
                      cases hf
                      exact r_iret (pc := 121) cx rfl rfl dX5_heldPart_121
                    · have hf := ifn h16 hf
                      refine r_aload_n (pc := 111) cx dX5_heldPart_111 1 rfl ?_
                      refine r_get (pc := 112) cx cf_X5 0 6 rfl (by decide) rfl wd_351 dX5_heldPart_112 ?_
                      refine r_iload_n (pc := 115) cx dX5_heldPart_115 2 rfl ?_
                      obtain ⟨h17, hf⟩ := chk_of hf
                      refine r_iald (pc := 116) cx 7 rfl h17 dX5_heldPart_116 ?_
                      refine r_goto (pc := 117) (tgt := 121) cx dX5_heldPart_117 (by decide) ?_
                      cases hf
                      exact r_iret (pc := 121) cx rfl rfl dX5_heldPart_121
                  · have hf := ifn h15 hf
                    refine r_tout (pc := 35) (tgt := 122) cx dX5_heldPart_35 (by
                      have nh6 := toInt_ne h6
                      have mh6 : (0 : Int32).toInt = 0 := by decide
                      rw [mh6] at nh6
                      have nh8 := toInt_ne h8
                      have mh8 : (1 : Int32).toInt = 1 := by decide
                      rw [mh8] at nh8
                      have nh10 := toInt_ne h10
                      have mh10 : (2 : Int32).toInt = 2 := by decide
                      rw [mh10] at nh10
                      have nh12 := toInt_ne h12
                      have mh12 : (3 : Int32).toInt = 3 := by decide
                      rw [mh12] at nh12
                      have nh15 := toInt_ne h15
                      have mh15 : (4 : Int32).toInt = 4 := by decide
                      rw [mh15] at nh15
                      omega) (by decide) ?_
                    refine r_iconst (pc := 122) cx dX5_heldPart_122 ic_0 ?_
                    cases hf
                    exact r_iret (pc := 123) cx rfl rfl dX5_heldPart_123
        refine r_icmp_ge (pc := 25) (tgt := 32) cx dX5_heldPart_25 (by decide) (fun h18 => ?_) (fun h18 => ?_)
        · have hf := ifp h18 hf
          refine r_iconst (pc := 32) cx dX5_heldPart_32 ic_0 ?_
          exact hJ5 _ hf
        · have hf := ifn h18 hf
          refine r_iconst (pc := 28) cx dX5_heldPart_28 ic_1 ?_
          refine r_goto (pc := 29) (tgt := 33) cx dX5_heldPart_29 (by decide) ?_
          exact hJ5 _ hf
      · have hf := ifn h3 hf
        refine r_iconst (pc := 18) cx dX5_heldPart_18 ic_0 ?_
        cases hf
        exact r_iret (pc := 19) cx rfl rfl dX5_heldPart_19
theorem yv_X5_heldPart : YV yX5_heldPart cX5_heldPart 4 (some .int) 2 := ⟨⟨by decide +kernel, by decide +kernel, by decide +kernel⟩, wd_984, wd_97, wd_982, wd_983⟩
def f_Ta_clear (v : T_Ta) : Option (T_Ta) :=
  (some ((Ta_alarmSort v), (Ta_alarmTurn v), (Ta_alarmLeaderSteps v), (Ta_alarmTrailerSteps v), (0 : Int32), (0 : Int32), (0 : Int32), (0 : Int32), (0 : Int32), (0 : Int32), (0 : Int32), (0 : Int32), (0 : Int32)))
abbrev rm_Ta_clear : Room := { frames := 0, cells := 0, slots := 0, locals := 0 }
set_option maxRecDepth 100000 in
set_option maxHeartbeats 4000000 in
theorem m_Ta_clear (l : Launch) (D : va_G) (K : Nat → ClassId) (q : Nat → Nat) (v : T_Ta) {o_v : T_Ta} (hf : f_Ta_clear v = some o_v) : MV l yX8_clear cX8_clear 1 (none) rm_Ta_clear D K [.ref (q 0)] (cl_Ta K q v) (cl_Ta K q o_v) := by
  refine MV_of (loc0 := [(0, .ref (q 0))]) (by decide +kernel) rfl (Nat.le_of_ble_eq_true rfl) ?_
  intro p e s m args below meth c A cx
  unfold f_Ta_clear at hf
  refine r_ws (ws' := [((q 0), ob 7 [.ref (q 1), .ref (q 2), .ref (q 3), .ref (q 4), .int (Ta_turns v), .int (Ta_points v), .int (Ta_alarms v), .int (Ta_alarmsSincePoint v), .int (Ta_greatestAhead v), .int (Ta_aheadSum v), .int (Ta_leaderTurns v), .int (Ta_trailerTurns v), .int (Ta_comparedSteps v)]), ((q 1), aI K 8 (Ta_alarmSort v)), ((q 2), aI K 8 (Ta_alarmTurn v)), ((q 3), aI K 8 (Ta_alarmLeaderSteps v)), ((q 4), aI K 8 (Ta_alarmTrailerSteps v))]) rfl ?_
  refine r_aload_n (pc := 0) cx dX8_clear_0 0 rfl ?_
  refine r_iconst (pc := 1) cx dX8_clear_1 ic_0 ?_
  refine r_putI (pc := 2) (ws' := [((q 0), ob 7 [.ref (q 1), .ref (q 2), .ref (q 3), .ref (q 4), .int (0 : Int32), .int (Ta_points v), .int (Ta_alarms v), .int (Ta_alarmsSincePoint v), .int (Ta_greatestAhead v), .int (Ta_aheadSum v), .int (Ta_leaderTurns v), .int (Ta_trailerTurns v), .int (Ta_comparedSteps v)]), ((q 1), aI K 8 (Ta_alarmSort v)), ((q 2), aI K 8 (Ta_alarmTurn v)), ((q 3), aI K 8 (Ta_alarmLeaderSteps v)), ((q 4), aI K 8 (Ta_alarmTrailerSteps v))]) cx cf_X8 0 4 rfl (by decide) (Nat.le_of_ble_eq_true rfl) rfl pfd_I wd_434 dX8_clear_2 rfl ?_
  refine r_aload_n (pc := 5) cx dX8_clear_5 0 rfl ?_
  refine r_iconst (pc := 6) cx dX8_clear_6 ic_0 ?_
  refine r_putI (pc := 7) (ws' := [((q 0), ob 7 [.ref (q 1), .ref (q 2), .ref (q 3), .ref (q 4), .int (0 : Int32), .int (0 : Int32), .int (Ta_alarms v), .int (Ta_alarmsSincePoint v), .int (Ta_greatestAhead v), .int (Ta_aheadSum v), .int (Ta_leaderTurns v), .int (Ta_trailerTurns v), .int (Ta_comparedSteps v)]), ((q 1), aI K 8 (Ta_alarmSort v)), ((q 2), aI K 8 (Ta_alarmTurn v)), ((q 3), aI K 8 (Ta_alarmLeaderSteps v)), ((q 4), aI K 8 (Ta_alarmTrailerSteps v))]) cx cf_X8 0 5 rfl (by decide) (Nat.le_of_ble_eq_true rfl) rfl pfd_I wd_437 dX8_clear_7 rfl ?_
  refine r_aload_n (pc := 10) cx dX8_clear_10 0 rfl ?_
  refine r_iconst (pc := 11) cx dX8_clear_11 ic_0 ?_
  refine r_putI (pc := 12) (ws' := [((q 0), ob 7 [.ref (q 1), .ref (q 2), .ref (q 3), .ref (q 4), .int (0 : Int32), .int (0 : Int32), .int (0 : Int32), .int (Ta_alarmsSincePoint v), .int (Ta_greatestAhead v), .int (Ta_aheadSum v), .int (Ta_leaderTurns v), .int (Ta_trailerTurns v), .int (Ta_comparedSteps v)]), ((q 1), aI K 8 (Ta_alarmSort v)), ((q 2), aI K 8 (Ta_alarmTurn v)), ((q 3), aI K 8 (Ta_alarmLeaderSteps v)), ((q 4), aI K 8 (Ta_alarmTrailerSteps v))]) cx cf_X8 0 6 rfl (by decide) (Nat.le_of_ble_eq_true rfl) rfl pfd_I wd_439 dX8_clear_12 rfl ?_
  refine r_aload_n (pc := 15) cx dX8_clear_15 0 rfl ?_
  refine r_iconst (pc := 16) cx dX8_clear_16 ic_0 ?_
  refine r_putI (pc := 17) (ws' := [((q 0), ob 7 [.ref (q 1), .ref (q 2), .ref (q 3), .ref (q 4), .int (0 : Int32), .int (0 : Int32), .int (0 : Int32), .int (0 : Int32), .int (Ta_greatestAhead v), .int (Ta_aheadSum v), .int (Ta_leaderTurns v), .int (Ta_trailerTurns v), .int (Ta_comparedSteps v)]), ((q 1), aI K 8 (Ta_alarmSort v)), ((q 2), aI K 8 (Ta_alarmTurn v)), ((q 3), aI K 8 (Ta_alarmLeaderSteps v)), ((q 4), aI K 8 (Ta_alarmTrailerSteps v))]) cx cf_X8 0 7 rfl (by decide) (Nat.le_of_ble_eq_true rfl) rfl pfd_I wd_441 dX8_clear_17 rfl ?_
  refine r_aload_n (pc := 20) cx dX8_clear_20 0 rfl ?_
  refine r_iconst (pc := 21) cx dX8_clear_21 ic_0 ?_
  refine r_putI (pc := 22) (ws' := [((q 0), ob 7 [.ref (q 1), .ref (q 2), .ref (q 3), .ref (q 4), .int (0 : Int32), .int (0 : Int32), .int (0 : Int32), .int (0 : Int32), .int (0 : Int32), .int (Ta_aheadSum v), .int (Ta_leaderTurns v), .int (Ta_trailerTurns v), .int (Ta_comparedSteps v)]), ((q 1), aI K 8 (Ta_alarmSort v)), ((q 2), aI K 8 (Ta_alarmTurn v)), ((q 3), aI K 8 (Ta_alarmLeaderSteps v)), ((q 4), aI K 8 (Ta_alarmTrailerSteps v))]) cx cf_X8 0 8 rfl (by decide) (Nat.le_of_ble_eq_true rfl) rfl pfd_I wd_443 dX8_clear_22 rfl ?_
  refine r_aload_n (pc := 25) cx dX8_clear_25 0 rfl ?_
  refine r_iconst (pc := 26) cx dX8_clear_26 ic_0 ?_
  refine r_putI (pc := 27) (ws' := [((q 0), ob 7 [.ref (q 1), .ref (q 2), .ref (q 3), .ref (q 4), .int (0 : Int32), .int (0 : Int32), .int (0 : Int32), .int (0 : Int32), .int (0 : Int32), .int (0 : Int32), .int (Ta_leaderTurns v), .int (Ta_trailerTurns v), .int (Ta_comparedSteps v)]), ((q 1), aI K 8 (Ta_alarmSort v)), ((q 2), aI K 8 (Ta_alarmTurn v)), ((q 3), aI K 8 (Ta_alarmLeaderSteps v)), ((q 4), aI K 8 (Ta_alarmTrailerSteps v))]) cx cf_X8 0 9 rfl (by decide) (Nat.le_of_ble_eq_true rfl) rfl pfd_I wd_445 dX8_clear_27 rfl ?_
  refine r_aload_n (pc := 30) cx dX8_clear_30 0 rfl ?_
  refine r_iconst (pc := 31) cx dX8_clear_31 ic_0 ?_
  refine r_putI (pc := 32) (ws' := [((q 0), ob 7 [.ref (q 1), .ref (q 2), .ref (q 3), .ref (q 4), .int (0 : Int32), .int (0 : Int32), .int (0 : Int32), .int (0 : Int32), .int (0 : Int32), .int (0 : Int32), .int (0 : Int32), .int (Ta_trailerTurns v), .int (Ta_comparedSteps v)]), ((q 1), aI K 8 (Ta_alarmSort v)), ((q 2), aI K 8 (Ta_alarmTurn v)), ((q 3), aI K 8 (Ta_alarmLeaderSteps v)), ((q 4), aI K 8 (Ta_alarmTrailerSteps v))]) cx cf_X8 0 10 rfl (by decide) (Nat.le_of_ble_eq_true rfl) rfl pfd_I wd_448 dX8_clear_32 rfl ?_
  refine r_aload_n (pc := 35) cx dX8_clear_35 0 rfl ?_
  refine r_iconst (pc := 36) cx dX8_clear_36 ic_0 ?_
  refine r_putI (pc := 37) (ws' := [((q 0), ob 7 [.ref (q 1), .ref (q 2), .ref (q 3), .ref (q 4), .int (0 : Int32), .int (0 : Int32), .int (0 : Int32), .int (0 : Int32), .int (0 : Int32), .int (0 : Int32), .int (0 : Int32), .int (0 : Int32), .int (Ta_comparedSteps v)]), ((q 1), aI K 8 (Ta_alarmSort v)), ((q 2), aI K 8 (Ta_alarmTurn v)), ((q 3), aI K 8 (Ta_alarmLeaderSteps v)), ((q 4), aI K 8 (Ta_alarmTrailerSteps v))]) cx cf_X8 0 11 rfl (by decide) (Nat.le_of_ble_eq_true rfl) rfl pfd_I wd_450 dX8_clear_37 rfl ?_
  refine r_aload_n (pc := 40) cx dX8_clear_40 0 rfl ?_
  refine r_iconst (pc := 41) cx dX8_clear_41 ic_0 ?_
  refine r_putI (pc := 42) (ws' := [((q 0), ob 7 [.ref (q 1), .ref (q 2), .ref (q 3), .ref (q 4), .int (0 : Int32), .int (0 : Int32), .int (0 : Int32), .int (0 : Int32), .int (0 : Int32), .int (0 : Int32), .int (0 : Int32), .int (0 : Int32), .int (0 : Int32)]), ((q 1), aI K 8 (Ta_alarmSort v)), ((q 2), aI K 8 (Ta_alarmTurn v)), ((q 3), aI K 8 (Ta_alarmLeaderSteps v)), ((q 4), aI K 8 (Ta_alarmTrailerSteps v))]) cx cf_X8 0 12 rfl (by decide) (Nat.le_of_ble_eq_true rfl) rfl pfd_I wd_452 dX8_clear_42 rfl ?_
  cases hf
  exact r_vret (pc := 45) cx rfl dX8_clear_45
theorem yv_X8_clear : YV yX8_clear cX8_clear 1 (none) 0 := ⟨⟨by decide +kernel, by decide +kernel, by decide +kernel⟩, wd_509, wd_99, wd_507, wd_508⟩
def f_Ta_copyFrom (v : T_Ta) (w : T_Ta) : Option (T_Ta) :=
  (nm (va_cpy (Ta_alarmSort w) (Ta_alarmSort v) 0 0 8) fun (f1 : Nat → Int32) => (nm (va_cpy (Ta_alarmTurn w) (Ta_alarmTurn v) 0 0 8) fun (f2 : Nat → Int32) => (nm (va_cpy (Ta_alarmLeaderSteps w) (Ta_alarmLeaderSteps v) 0 0 8) fun (f3 : Nat → Int32) => (nm (va_cpy (Ta_alarmTrailerSteps w) (Ta_alarmTrailerSteps v) 0 0 8) fun (f4 : Nat → Int32) => (nm (Ta_turns w) fun (x5 : Int32) => (nm (Ta_points w) fun (x6 : Int32) => (nm (Ta_alarms w) fun (x7 : Int32) => (nm (Ta_alarmsSincePoint w) fun (x8 : Int32) => (nm (Ta_greatestAhead w) fun (x9 : Int32) => (nm (Ta_aheadSum w) fun (x10 : Int32) => (nm (Ta_leaderTurns w) fun (x11 : Int32) => (nm (Ta_trailerTurns w) fun (x12 : Int32) => (nm (Ta_comparedSteps w) fun (x13 : Int32) => (some (f1, f2, f3, f4, x5, x6, x7, x8, x9, x10, x11, x12, x13)))))))))))))))
abbrev rm_Ta_copyFrom : Room := { frames := 1, cells := 0, slots := 0, locals := 40 }
set_option maxRecDepth 100000 in
set_option maxHeartbeats 4000000 in
theorem m_Ta_copyFrom (l : Launch) (D : va_G) (K : Nat → ClassId) (q : Nat → Nat) (v : T_Ta) (qw : Nat → Nat) (w : T_Ta) {o_v : T_Ta} (hf : f_Ta_copyFrom v w = some o_v) : MV l yX8_copyFrom cX8_copyFrom 2 (none) rm_Ta_copyFrom D K [.ref (q 0), .ref (qw 0)] (cl_Ta K q v ++ (cl_Ta K qw w)) (cl_Ta K q o_v ++ (cl_Ta K qw w)) := by
  refine MV_of (loc0 := [(0, .ref (q 0)), (1, .ref (qw 0))]) (by decide +kernel) rfl (Nat.le_of_ble_eq_true rfl) ?_
  intro p e s m args below meth c A cx
  unfold f_Ta_copyFrom at hf
  refine r_ws (ws' := [((q 0), ob 7 [.ref (q 1), .ref (q 2), .ref (q 3), .ref (q 4), .int (Ta_turns v), .int (Ta_points v), .int (Ta_alarms v), .int (Ta_alarmsSincePoint v), .int (Ta_greatestAhead v), .int (Ta_aheadSum v), .int (Ta_leaderTurns v), .int (Ta_trailerTurns v), .int (Ta_comparedSteps v)]), ((q 1), aI K 8 (Ta_alarmSort v)), ((q 2), aI K 8 (Ta_alarmTurn v)), ((q 3), aI K 8 (Ta_alarmLeaderSteps v)), ((q 4), aI K 8 (Ta_alarmTrailerSteps v)), ((qw 0), ob 7 [.ref (qw 1), .ref (qw 2), .ref (qw 3), .ref (qw 4), .int (Ta_turns w), .int (Ta_points w), .int (Ta_alarms w), .int (Ta_alarmsSincePoint w), .int (Ta_greatestAhead w), .int (Ta_aheadSum w), .int (Ta_leaderTurns w), .int (Ta_trailerTurns w), .int (Ta_comparedSteps w)]), ((qw 1), aI K 8 (Ta_alarmSort w)), ((qw 2), aI K 8 (Ta_alarmTurn w)), ((qw 3), aI K 8 (Ta_alarmLeaderSteps w)), ((qw 4), aI K 8 (Ta_alarmTrailerSteps w))]) rfl ?_
  refine r_aload_n (pc := 0) cx dX8_copyFrom_0 1 rfl ?_
  refine r_get (pc := 1) cx cf_X8 5 0 rfl (by decide) rfl wd_430 dX8_copyFrom_1 ?_
  refine r_iconst (pc := 4) cx dX8_copyFrom_4 ic_0 ?_
  refine r_aload_n (pc := 5) cx dX8_copyFrom_5 0 rfl ?_
  refine r_get (pc := 6) cx cf_X8 0 0 rfl (by decide) rfl wd_430 dX8_copyFrom_6 ?_
  refine r_iconst (pc := 9) cx dX8_copyFrom_9 ic_0 ?_
  refine r_bipush (pc := 10) cx dX8_copyFrom_10 bp_8 ?_
  obtain ⟨f1, ef1, hf⟩ := nm_of hf
  refine r_copyI (pc := 12) (ws' := [((q 0), ob 7 [.ref (q 1), .ref (q 2), .ref (q 3), .ref (q 4), .int (Ta_turns v), .int (Ta_points v), .int (Ta_alarms v), .int (Ta_alarmsSincePoint v), .int (Ta_greatestAhead v), .int (Ta_aheadSum v), .int (Ta_leaderTurns v), .int (Ta_trailerTurns v), .int (Ta_comparedSteps v)]), ((q 1), aI K 8 f1), ((q 2), aI K 8 (Ta_alarmTurn v)), ((q 3), aI K 8 (Ta_alarmLeaderSteps v)), ((q 4), aI K 8 (Ta_alarmTrailerSteps v)), ((qw 0), ob 7 [.ref (qw 1), .ref (qw 2), .ref (qw 3), .ref (qw 4), .int (Ta_turns w), .int (Ta_points w), .int (Ta_alarms w), .int (Ta_alarmsSincePoint w), .int (Ta_greatestAhead w), .int (Ta_aheadSum w), .int (Ta_leaderTurns w), .int (Ta_trailerTurns w), .int (Ta_comparedSteps w)]), ((qw 1), aI K 8 (Ta_alarmSort w)), ((qw 2), aI K 8 (Ta_alarmTurn w)), ((qw 3), aI K 8 (Ta_alarmLeaderSteps w)), ((qw 4), aI K 8 (Ta_alarmTrailerSteps w))]) cx 6 1 rfl rfl (by decide) (nn := 8) (by decide) (by decide) (by decide) ef1 wd_1064 wd_488 wd_487 wd_100 (by decide) (by decide) dX8_copyFrom_12 rfl ?_
  refine r_aload_n (pc := 15) cx dX8_copyFrom_15 1 rfl ?_
  refine r_get (pc := 16) cx cf_X8 5 1 rfl (by decide) rfl wd_431 dX8_copyFrom_16 ?_
  refine r_iconst (pc := 19) cx dX8_copyFrom_19 ic_0 ?_
  refine r_aload_n (pc := 20) cx dX8_copyFrom_20 0 rfl ?_
  refine r_get (pc := 21) cx cf_X8 0 1 rfl (by decide) rfl wd_431 dX8_copyFrom_21 ?_
  refine r_iconst (pc := 24) cx dX8_copyFrom_24 ic_0 ?_
  refine r_bipush (pc := 25) cx dX8_copyFrom_25 bp_8 ?_
  obtain ⟨f2, ef2, hf⟩ := nm_of hf
  refine r_copyI (pc := 27) (ws' := [((q 0), ob 7 [.ref (q 1), .ref (q 2), .ref (q 3), .ref (q 4), .int (Ta_turns v), .int (Ta_points v), .int (Ta_alarms v), .int (Ta_alarmsSincePoint v), .int (Ta_greatestAhead v), .int (Ta_aheadSum v), .int (Ta_leaderTurns v), .int (Ta_trailerTurns v), .int (Ta_comparedSteps v)]), ((q 1), aI K 8 f1), ((q 2), aI K 8 f2), ((q 3), aI K 8 (Ta_alarmLeaderSteps v)), ((q 4), aI K 8 (Ta_alarmTrailerSteps v)), ((qw 0), ob 7 [.ref (qw 1), .ref (qw 2), .ref (qw 3), .ref (qw 4), .int (Ta_turns w), .int (Ta_points w), .int (Ta_alarms w), .int (Ta_alarmsSincePoint w), .int (Ta_greatestAhead w), .int (Ta_aheadSum w), .int (Ta_leaderTurns w), .int (Ta_trailerTurns w), .int (Ta_comparedSteps w)]), ((qw 1), aI K 8 (Ta_alarmSort w)), ((qw 2), aI K 8 (Ta_alarmTurn w)), ((qw 3), aI K 8 (Ta_alarmLeaderSteps w)), ((qw 4), aI K 8 (Ta_alarmTrailerSteps w))]) cx 7 2 rfl rfl (by decide) (nn := 8) (by decide) (by decide) (by decide) ef2 wd_1064 wd_488 wd_487 wd_100 (by decide) (by decide) dX8_copyFrom_27 rfl ?_
  refine r_aload_n (pc := 30) cx dX8_copyFrom_30 1 rfl ?_
  refine r_get (pc := 31) cx cf_X8 5 2 rfl (by decide) rfl wd_432 dX8_copyFrom_31 ?_
  refine r_iconst (pc := 34) cx dX8_copyFrom_34 ic_0 ?_
  refine r_aload_n (pc := 35) cx dX8_copyFrom_35 0 rfl ?_
  refine r_get (pc := 36) cx cf_X8 0 2 rfl (by decide) rfl wd_432 dX8_copyFrom_36 ?_
  refine r_iconst (pc := 39) cx dX8_copyFrom_39 ic_0 ?_
  refine r_bipush (pc := 40) cx dX8_copyFrom_40 bp_8 ?_
  obtain ⟨f3, ef3, hf⟩ := nm_of hf
  refine r_copyI (pc := 42) (ws' := [((q 0), ob 7 [.ref (q 1), .ref (q 2), .ref (q 3), .ref (q 4), .int (Ta_turns v), .int (Ta_points v), .int (Ta_alarms v), .int (Ta_alarmsSincePoint v), .int (Ta_greatestAhead v), .int (Ta_aheadSum v), .int (Ta_leaderTurns v), .int (Ta_trailerTurns v), .int (Ta_comparedSteps v)]), ((q 1), aI K 8 f1), ((q 2), aI K 8 f2), ((q 3), aI K 8 f3), ((q 4), aI K 8 (Ta_alarmTrailerSteps v)), ((qw 0), ob 7 [.ref (qw 1), .ref (qw 2), .ref (qw 3), .ref (qw 4), .int (Ta_turns w), .int (Ta_points w), .int (Ta_alarms w), .int (Ta_alarmsSincePoint w), .int (Ta_greatestAhead w), .int (Ta_aheadSum w), .int (Ta_leaderTurns w), .int (Ta_trailerTurns w), .int (Ta_comparedSteps w)]), ((qw 1), aI K 8 (Ta_alarmSort w)), ((qw 2), aI K 8 (Ta_alarmTurn w)), ((qw 3), aI K 8 (Ta_alarmLeaderSteps w)), ((qw 4), aI K 8 (Ta_alarmTrailerSteps w))]) cx 8 3 rfl rfl (by decide) (nn := 8) (by decide) (by decide) (by decide) ef3 wd_1064 wd_488 wd_487 wd_100 (by decide) (by decide) dX8_copyFrom_42 rfl ?_
  refine r_aload_n (pc := 45) cx dX8_copyFrom_45 1 rfl ?_
  refine r_get (pc := 46) cx cf_X8 5 3 rfl (by decide) rfl wd_433 dX8_copyFrom_46 ?_
  refine r_iconst (pc := 49) cx dX8_copyFrom_49 ic_0 ?_
  refine r_aload_n (pc := 50) cx dX8_copyFrom_50 0 rfl ?_
  refine r_get (pc := 51) cx cf_X8 0 3 rfl (by decide) rfl wd_433 dX8_copyFrom_51 ?_
  refine r_iconst (pc := 54) cx dX8_copyFrom_54 ic_0 ?_
  refine r_bipush (pc := 55) cx dX8_copyFrom_55 bp_8 ?_
  obtain ⟨f4, ef4, hf⟩ := nm_of hf
  refine r_copyI (pc := 57) (ws' := [((q 0), ob 7 [.ref (q 1), .ref (q 2), .ref (q 3), .ref (q 4), .int (Ta_turns v), .int (Ta_points v), .int (Ta_alarms v), .int (Ta_alarmsSincePoint v), .int (Ta_greatestAhead v), .int (Ta_aheadSum v), .int (Ta_leaderTurns v), .int (Ta_trailerTurns v), .int (Ta_comparedSteps v)]), ((q 1), aI K 8 f1), ((q 2), aI K 8 f2), ((q 3), aI K 8 f3), ((q 4), aI K 8 f4), ((qw 0), ob 7 [.ref (qw 1), .ref (qw 2), .ref (qw 3), .ref (qw 4), .int (Ta_turns w), .int (Ta_points w), .int (Ta_alarms w), .int (Ta_alarmsSincePoint w), .int (Ta_greatestAhead w), .int (Ta_aheadSum w), .int (Ta_leaderTurns w), .int (Ta_trailerTurns w), .int (Ta_comparedSteps w)]), ((qw 1), aI K 8 (Ta_alarmSort w)), ((qw 2), aI K 8 (Ta_alarmTurn w)), ((qw 3), aI K 8 (Ta_alarmLeaderSteps w)), ((qw 4), aI K 8 (Ta_alarmTrailerSteps w))]) cx 9 4 rfl rfl (by decide) (nn := 8) (by decide) (by decide) (by decide) ef4 wd_1064 wd_488 wd_487 wd_100 (by decide) (by decide) dX8_copyFrom_57 rfl ?_
  refine r_aload_n (pc := 60) cx dX8_copyFrom_60 0 rfl ?_
  refine r_aload_n (pc := 61) cx dX8_copyFrom_61 1 rfl ?_
  refine r_get (pc := 62) cx cf_X8 5 4 rfl (by decide) rfl wd_434 dX8_copyFrom_62 ?_
  obtain ⟨x5, ex5, hf⟩ := nm_of hf
  refine r_nm ex5 ?_
  refine r_putI (pc := 65) (ws' := [((q 0), ob 7 [.ref (q 1), .ref (q 2), .ref (q 3), .ref (q 4), .int x5, .int (Ta_points v), .int (Ta_alarms v), .int (Ta_alarmsSincePoint v), .int (Ta_greatestAhead v), .int (Ta_aheadSum v), .int (Ta_leaderTurns v), .int (Ta_trailerTurns v), .int (Ta_comparedSteps v)]), ((q 1), aI K 8 f1), ((q 2), aI K 8 f2), ((q 3), aI K 8 f3), ((q 4), aI K 8 f4), ((qw 0), ob 7 [.ref (qw 1), .ref (qw 2), .ref (qw 3), .ref (qw 4), .int (Ta_turns w), .int (Ta_points w), .int (Ta_alarms w), .int (Ta_alarmsSincePoint w), .int (Ta_greatestAhead w), .int (Ta_aheadSum w), .int (Ta_leaderTurns w), .int (Ta_trailerTurns w), .int (Ta_comparedSteps w)]), ((qw 1), aI K 8 (Ta_alarmSort w)), ((qw 2), aI K 8 (Ta_alarmTurn w)), ((qw 3), aI K 8 (Ta_alarmLeaderSteps w)), ((qw 4), aI K 8 (Ta_alarmTrailerSteps w))]) cx cf_X8 0 4 rfl (by decide) (Nat.le_of_ble_eq_true rfl) rfl pfd_I wd_434 dX8_copyFrom_65 rfl ?_
  refine r_aload_n (pc := 68) cx dX8_copyFrom_68 0 rfl ?_
  refine r_aload_n (pc := 69) cx dX8_copyFrom_69 1 rfl ?_
  refine r_get (pc := 70) cx cf_X8 5 5 rfl (by decide) rfl wd_437 dX8_copyFrom_70 ?_
  obtain ⟨x6, ex6, hf⟩ := nm_of hf
  refine r_nm ex6 ?_
  refine r_putI (pc := 73) (ws' := [((q 0), ob 7 [.ref (q 1), .ref (q 2), .ref (q 3), .ref (q 4), .int x5, .int x6, .int (Ta_alarms v), .int (Ta_alarmsSincePoint v), .int (Ta_greatestAhead v), .int (Ta_aheadSum v), .int (Ta_leaderTurns v), .int (Ta_trailerTurns v), .int (Ta_comparedSteps v)]), ((q 1), aI K 8 f1), ((q 2), aI K 8 f2), ((q 3), aI K 8 f3), ((q 4), aI K 8 f4), ((qw 0), ob 7 [.ref (qw 1), .ref (qw 2), .ref (qw 3), .ref (qw 4), .int (Ta_turns w), .int (Ta_points w), .int (Ta_alarms w), .int (Ta_alarmsSincePoint w), .int (Ta_greatestAhead w), .int (Ta_aheadSum w), .int (Ta_leaderTurns w), .int (Ta_trailerTurns w), .int (Ta_comparedSteps w)]), ((qw 1), aI K 8 (Ta_alarmSort w)), ((qw 2), aI K 8 (Ta_alarmTurn w)), ((qw 3), aI K 8 (Ta_alarmLeaderSteps w)), ((qw 4), aI K 8 (Ta_alarmTrailerSteps w))]) cx cf_X8 0 5 rfl (by decide) (Nat.le_of_ble_eq_true rfl) rfl pfd_I wd_437 dX8_copyFrom_73 rfl ?_
  refine r_aload_n (pc := 76) cx dX8_copyFrom_76 0 rfl ?_
  refine r_aload_n (pc := 77) cx dX8_copyFrom_77 1 rfl ?_
  refine r_get (pc := 78) cx cf_X8 5 6 rfl (by decide) rfl wd_439 dX8_copyFrom_78 ?_
  obtain ⟨x7, ex7, hf⟩ := nm_of hf
  refine r_nm ex7 ?_
  refine r_putI (pc := 81) (ws' := [((q 0), ob 7 [.ref (q 1), .ref (q 2), .ref (q 3), .ref (q 4), .int x5, .int x6, .int x7, .int (Ta_alarmsSincePoint v), .int (Ta_greatestAhead v), .int (Ta_aheadSum v), .int (Ta_leaderTurns v), .int (Ta_trailerTurns v), .int (Ta_comparedSteps v)]), ((q 1), aI K 8 f1), ((q 2), aI K 8 f2), ((q 3), aI K 8 f3), ((q 4), aI K 8 f4), ((qw 0), ob 7 [.ref (qw 1), .ref (qw 2), .ref (qw 3), .ref (qw 4), .int (Ta_turns w), .int (Ta_points w), .int (Ta_alarms w), .int (Ta_alarmsSincePoint w), .int (Ta_greatestAhead w), .int (Ta_aheadSum w), .int (Ta_leaderTurns w), .int (Ta_trailerTurns w), .int (Ta_comparedSteps w)]), ((qw 1), aI K 8 (Ta_alarmSort w)), ((qw 2), aI K 8 (Ta_alarmTurn w)), ((qw 3), aI K 8 (Ta_alarmLeaderSteps w)), ((qw 4), aI K 8 (Ta_alarmTrailerSteps w))]) cx cf_X8 0 6 rfl (by decide) (Nat.le_of_ble_eq_true rfl) rfl pfd_I wd_439 dX8_copyFrom_81 rfl ?_
  refine r_aload_n (pc := 84) cx dX8_copyFrom_84 0 rfl ?_
  refine r_aload_n (pc := 85) cx dX8_copyFrom_85 1 rfl ?_
  refine r_get (pc := 86) cx cf_X8 5 7 rfl (by decide) rfl wd_441 dX8_copyFrom_86 ?_
  obtain ⟨x8, ex8, hf⟩ := nm_of hf
  refine r_nm ex8 ?_
  refine r_putI (pc := 89) (ws' := [((q 0), ob 7 [.ref (q 1), .ref (q 2), .ref (q 3), .ref (q 4), .int x5, .int x6, .int x7, .int x8, .int (Ta_greatestAhead v), .int (Ta_aheadSum v), .int (Ta_leaderTurns v), .int (Ta_trailerTurns v), .int (Ta_comparedSteps v)]), ((q 1), aI K 8 f1), ((q 2), aI K 8 f2), ((q 3), aI K 8 f3), ((q 4), aI K 8 f4), ((qw 0), ob 7 [.ref (qw 1), .ref (qw 2), .ref (qw 3), .ref (qw 4), .int (Ta_turns w), .int (Ta_points w), .int (Ta_alarms w), .int (Ta_alarmsSincePoint w), .int (Ta_greatestAhead w), .int (Ta_aheadSum w), .int (Ta_leaderTurns w), .int (Ta_trailerTurns w), .int (Ta_comparedSteps w)]), ((qw 1), aI K 8 (Ta_alarmSort w)), ((qw 2), aI K 8 (Ta_alarmTurn w)), ((qw 3), aI K 8 (Ta_alarmLeaderSteps w)), ((qw 4), aI K 8 (Ta_alarmTrailerSteps w))]) cx cf_X8 0 7 rfl (by decide) (Nat.le_of_ble_eq_true rfl) rfl pfd_I wd_441 dX8_copyFrom_89 rfl ?_
  refine r_aload_n (pc := 92) cx dX8_copyFrom_92 0 rfl ?_
  refine r_aload_n (pc := 93) cx dX8_copyFrom_93 1 rfl ?_
  refine r_get (pc := 94) cx cf_X8 5 8 rfl (by decide) rfl wd_443 dX8_copyFrom_94 ?_
  obtain ⟨x9, ex9, hf⟩ := nm_of hf
  refine r_nm ex9 ?_
  refine r_putI (pc := 97) (ws' := [((q 0), ob 7 [.ref (q 1), .ref (q 2), .ref (q 3), .ref (q 4), .int x5, .int x6, .int x7, .int x8, .int x9, .int (Ta_aheadSum v), .int (Ta_leaderTurns v), .int (Ta_trailerTurns v), .int (Ta_comparedSteps v)]), ((q 1), aI K 8 f1), ((q 2), aI K 8 f2), ((q 3), aI K 8 f3), ((q 4), aI K 8 f4), ((qw 0), ob 7 [.ref (qw 1), .ref (qw 2), .ref (qw 3), .ref (qw 4), .int (Ta_turns w), .int (Ta_points w), .int (Ta_alarms w), .int (Ta_alarmsSincePoint w), .int (Ta_greatestAhead w), .int (Ta_aheadSum w), .int (Ta_leaderTurns w), .int (Ta_trailerTurns w), .int (Ta_comparedSteps w)]), ((qw 1), aI K 8 (Ta_alarmSort w)), ((qw 2), aI K 8 (Ta_alarmTurn w)), ((qw 3), aI K 8 (Ta_alarmLeaderSteps w)), ((qw 4), aI K 8 (Ta_alarmTrailerSteps w))]) cx cf_X8 0 8 rfl (by decide) (Nat.le_of_ble_eq_true rfl) rfl pfd_I wd_443 dX8_copyFrom_97 rfl ?_
  refine r_aload_n (pc := 100) cx dX8_copyFrom_100 0 rfl ?_
  refine r_aload_n (pc := 101) cx dX8_copyFrom_101 1 rfl ?_
  refine r_get (pc := 102) cx cf_X8 5 9 rfl (by decide) rfl wd_445 dX8_copyFrom_102 ?_
  obtain ⟨x10, ex10, hf⟩ := nm_of hf
  refine r_nm ex10 ?_
  refine r_putI (pc := 105) (ws' := [((q 0), ob 7 [.ref (q 1), .ref (q 2), .ref (q 3), .ref (q 4), .int x5, .int x6, .int x7, .int x8, .int x9, .int x10, .int (Ta_leaderTurns v), .int (Ta_trailerTurns v), .int (Ta_comparedSteps v)]), ((q 1), aI K 8 f1), ((q 2), aI K 8 f2), ((q 3), aI K 8 f3), ((q 4), aI K 8 f4), ((qw 0), ob 7 [.ref (qw 1), .ref (qw 2), .ref (qw 3), .ref (qw 4), .int (Ta_turns w), .int (Ta_points w), .int (Ta_alarms w), .int (Ta_alarmsSincePoint w), .int (Ta_greatestAhead w), .int (Ta_aheadSum w), .int (Ta_leaderTurns w), .int (Ta_trailerTurns w), .int (Ta_comparedSteps w)]), ((qw 1), aI K 8 (Ta_alarmSort w)), ((qw 2), aI K 8 (Ta_alarmTurn w)), ((qw 3), aI K 8 (Ta_alarmLeaderSteps w)), ((qw 4), aI K 8 (Ta_alarmTrailerSteps w))]) cx cf_X8 0 9 rfl (by decide) (Nat.le_of_ble_eq_true rfl) rfl pfd_I wd_445 dX8_copyFrom_105 rfl ?_
  refine r_aload_n (pc := 108) cx dX8_copyFrom_108 0 rfl ?_
  refine r_aload_n (pc := 109) cx dX8_copyFrom_109 1 rfl ?_
  refine r_get (pc := 110) cx cf_X8 5 10 rfl (by decide) rfl wd_448 dX8_copyFrom_110 ?_
  obtain ⟨x11, ex11, hf⟩ := nm_of hf
  refine r_nm ex11 ?_
  refine r_putI (pc := 113) (ws' := [((q 0), ob 7 [.ref (q 1), .ref (q 2), .ref (q 3), .ref (q 4), .int x5, .int x6, .int x7, .int x8, .int x9, .int x10, .int x11, .int (Ta_trailerTurns v), .int (Ta_comparedSteps v)]), ((q 1), aI K 8 f1), ((q 2), aI K 8 f2), ((q 3), aI K 8 f3), ((q 4), aI K 8 f4), ((qw 0), ob 7 [.ref (qw 1), .ref (qw 2), .ref (qw 3), .ref (qw 4), .int (Ta_turns w), .int (Ta_points w), .int (Ta_alarms w), .int (Ta_alarmsSincePoint w), .int (Ta_greatestAhead w), .int (Ta_aheadSum w), .int (Ta_leaderTurns w), .int (Ta_trailerTurns w), .int (Ta_comparedSteps w)]), ((qw 1), aI K 8 (Ta_alarmSort w)), ((qw 2), aI K 8 (Ta_alarmTurn w)), ((qw 3), aI K 8 (Ta_alarmLeaderSteps w)), ((qw 4), aI K 8 (Ta_alarmTrailerSteps w))]) cx cf_X8 0 10 rfl (by decide) (Nat.le_of_ble_eq_true rfl) rfl pfd_I wd_448 dX8_copyFrom_113 rfl ?_
  refine r_aload_n (pc := 116) cx dX8_copyFrom_116 0 rfl ?_
  refine r_aload_n (pc := 117) cx dX8_copyFrom_117 1 rfl ?_
  refine r_get (pc := 118) cx cf_X8 5 11 rfl (by decide) rfl wd_450 dX8_copyFrom_118 ?_
  obtain ⟨x12, ex12, hf⟩ := nm_of hf
  refine r_nm ex12 ?_
  refine r_putI (pc := 121) (ws' := [((q 0), ob 7 [.ref (q 1), .ref (q 2), .ref (q 3), .ref (q 4), .int x5, .int x6, .int x7, .int x8, .int x9, .int x10, .int x11, .int x12, .int (Ta_comparedSteps v)]), ((q 1), aI K 8 f1), ((q 2), aI K 8 f2), ((q 3), aI K 8 f3), ((q 4), aI K 8 f4), ((qw 0), ob 7 [.ref (qw 1), .ref (qw 2), .ref (qw 3), .ref (qw 4), .int (Ta_turns w), .int (Ta_points w), .int (Ta_alarms w), .int (Ta_alarmsSincePoint w), .int (Ta_greatestAhead w), .int (Ta_aheadSum w), .int (Ta_leaderTurns w), .int (Ta_trailerTurns w), .int (Ta_comparedSteps w)]), ((qw 1), aI K 8 (Ta_alarmSort w)), ((qw 2), aI K 8 (Ta_alarmTurn w)), ((qw 3), aI K 8 (Ta_alarmLeaderSteps w)), ((qw 4), aI K 8 (Ta_alarmTrailerSteps w))]) cx cf_X8 0 11 rfl (by decide) (Nat.le_of_ble_eq_true rfl) rfl pfd_I wd_450 dX8_copyFrom_121 rfl ?_
  refine r_aload_n (pc := 124) cx dX8_copyFrom_124 0 rfl ?_
  refine r_aload_n (pc := 125) cx dX8_copyFrom_125 1 rfl ?_
  refine r_get (pc := 126) cx cf_X8 5 12 rfl (by decide) rfl wd_452 dX8_copyFrom_126 ?_
  obtain ⟨x13, ex13, hf⟩ := nm_of hf
  refine r_nm ex13 ?_
  refine r_putI (pc := 129) (ws' := [((q 0), ob 7 [.ref (q 1), .ref (q 2), .ref (q 3), .ref (q 4), .int x5, .int x6, .int x7, .int x8, .int x9, .int x10, .int x11, .int x12, .int x13]), ((q 1), aI K 8 f1), ((q 2), aI K 8 f2), ((q 3), aI K 8 f3), ((q 4), aI K 8 f4), ((qw 0), ob 7 [.ref (qw 1), .ref (qw 2), .ref (qw 3), .ref (qw 4), .int (Ta_turns w), .int (Ta_points w), .int (Ta_alarms w), .int (Ta_alarmsSincePoint w), .int (Ta_greatestAhead w), .int (Ta_aheadSum w), .int (Ta_leaderTurns w), .int (Ta_trailerTurns w), .int (Ta_comparedSteps w)]), ((qw 1), aI K 8 (Ta_alarmSort w)), ((qw 2), aI K 8 (Ta_alarmTurn w)), ((qw 3), aI K 8 (Ta_alarmLeaderSteps w)), ((qw 4), aI K 8 (Ta_alarmTrailerSteps w))]) cx cf_X8 0 12 rfl (by decide) (Nat.le_of_ble_eq_true rfl) rfl pfd_I wd_452 dX8_copyFrom_129 rfl ?_
  cases hf
  exact r_vret (pc := 132) cx rfl dX8_copyFrom_132
theorem yv_X8_copyFrom : YV yX8_copyFrom cX8_copyFrom 2 (none) 1 := ⟨⟨by decide +kernel, by decide +kernel, by decide +kernel⟩, wd_1063, wd_99, wd_1061, wd_1062⟩
def f_Ta_addAlarm (v : T_Ta) (a1 : Int32) (a2 : Int32) (a3 : Int32) : Option (T_Ta) :=
  (nm ((Ta_alarms v) &&& (7 : Int32)) fun (x1 : Int32) => (nm (upd (Ta_alarmSort v) x1.toNatClampNeg a1) fun (f2 : Nat → Int32) => (nm (Ta_turns v) fun (x3 : Int32) => (nm (upd (Ta_alarmTurn v) x1.toNatClampNeg x3) fun (f4 : Nat → Int32) => (nm (upd (Ta_alarmLeaderSteps v) x1.toNatClampNeg a2) fun (f5 : Nat → Int32) => (nm (upd (Ta_alarmTrailerSteps v) x1.toNatClampNeg a3) fun (f6 : Nat → Int32) => (nm ((Ta_alarms v) + (1 : Int32)) fun (x7 : Int32) => (nm ((Ta_alarmsSincePoint v) + (1 : Int32)) fun (x8 : Int32) => (some (f2, f4, f5, f6, (Ta_turns v), (Ta_points v), x7, x8, (Ta_greatestAhead v), (Ta_aheadSum v), (Ta_leaderTurns v), (Ta_trailerTurns v), (Ta_comparedSteps v)))))))))))
abbrev rm_Ta_addAlarm : Room := { frames := 0, cells := 0, slots := 0, locals := 0 }
set_option maxRecDepth 100000 in
set_option maxHeartbeats 4000000 in
theorem m_Ta_addAlarm (l : Launch) (D : va_G) (K : Nat → ClassId) (q : Nat → Nat) (v : T_Ta) (a1 : Int32) (a2 : Int32) (a3 : Int32) {o_v : T_Ta} (hf : f_Ta_addAlarm v a1 a2 a3 = some o_v) : MV l yX8_addAlarm cX8_addAlarm 5 (none) rm_Ta_addAlarm D K [.ref (q 0), .int a1, .int a2, .int a3] (cl_Ta K q v) (cl_Ta K q o_v) := by
  refine MV_of (loc0 := [(0, .ref (q 0)), (1, .int a1), (2, .int a2), (3, .int a3)]) (by decide +kernel) rfl (Nat.le_of_ble_eq_true rfl) ?_
  intro p e s m args below meth c A cx
  unfold f_Ta_addAlarm at hf
  refine r_ws (ws' := [((q 0), ob 7 [.ref (q 1), .ref (q 2), .ref (q 3), .ref (q 4), .int (Ta_turns v), .int (Ta_points v), .int (Ta_alarms v), .int (Ta_alarmsSincePoint v), .int (Ta_greatestAhead v), .int (Ta_aheadSum v), .int (Ta_leaderTurns v), .int (Ta_trailerTurns v), .int (Ta_comparedSteps v)]), ((q 1), aI K 8 (Ta_alarmSort v)), ((q 2), aI K 8 (Ta_alarmTurn v)), ((q 3), aI K 8 (Ta_alarmLeaderSteps v)), ((q 4), aI K 8 (Ta_alarmTrailerSteps v))]) rfl ?_
  refine r_aload_n (pc := 0) cx dX8_addAlarm_0 0 rfl ?_
  refine r_get (pc := 1) cx cf_X8 0 6 rfl (by decide) rfl wd_439 dX8_addAlarm_1 ?_
  refine r_bipush (pc := 4) cx dX8_addAlarm_4 bp_7 ?_
  refine r_iand (pc := 6) cx dX8_addAlarm_6 ?_
  obtain ⟨x1, ex1, hf⟩ := nm_of hf
  refine r_nm ex1 ?_
  refine r_istore (pc := 7) (loc' := [(4, .int x1), (0, .ref (q 0)), (1, .int a1), (2, .int a2), (3, .int a3)]) cx dX8_addAlarm_7 (by decide) rfl ?_
  refine r_aload_n (pc := 9) cx dX8_addAlarm_9 1 rfl ?_
  refine r_get (pc := 10) cx cf_X8 0 0 rfl (by decide) rfl wd_430 dX8_addAlarm_10 ?_
  refine r_iload (pc := 13) cx dX8_addAlarm_13 0 rfl ?_
  refine r_iload_n (pc := 15) cx dX8_addAlarm_15 2 rfl ?_
  obtain ⟨f2, ef2, hf⟩ := nm_of hf
  refine r_iast (pc := 16) (ws' := [((q 0), ob 7 [.ref (q 1), .ref (q 2), .ref (q 3), .ref (q 4), .int (Ta_turns v), .int (Ta_points v), .int (Ta_alarms v), .int (Ta_alarmsSincePoint v), .int (Ta_greatestAhead v), .int (Ta_aheadSum v), .int (Ta_leaderTurns v), .int (Ta_trailerTurns v), .int (Ta_comparedSteps v)]), ((q 1), aI K 8 f2), ((q 2), aI K 8 (Ta_alarmTurn v)), ((q 3), aI K 8 (Ta_alarmLeaderSteps v)), ((q 4), aI K 8 (Ta_alarmTrailerSteps v))]) cx 1 rfl (by rw [ex1]; exact ix_and7 _) dX8_addAlarm_16 ef2 rfl ?_
  refine r_aload_n (pc := 17) cx dX8_addAlarm_17 1 rfl ?_
  refine r_get (pc := 18) cx cf_X8 0 1 rfl (by decide) rfl wd_431 dX8_addAlarm_18 ?_
  refine r_iload (pc := 21) cx dX8_addAlarm_21 0 rfl ?_
  refine r_aload_n (pc := 23) cx dX8_addAlarm_23 1 rfl ?_
  refine r_get (pc := 24) cx cf_X8 0 4 rfl (by decide) rfl wd_434 dX8_addAlarm_24 ?_
  obtain ⟨x3, ex3, hf⟩ := nm_of hf
  refine r_nm ex3 ?_
  obtain ⟨f4, ef4, hf⟩ := nm_of hf
  refine r_iast (pc := 27) (ws' := [((q 0), ob 7 [.ref (q 1), .ref (q 2), .ref (q 3), .ref (q 4), .int (Ta_turns v), .int (Ta_points v), .int (Ta_alarms v), .int (Ta_alarmsSincePoint v), .int (Ta_greatestAhead v), .int (Ta_aheadSum v), .int (Ta_leaderTurns v), .int (Ta_trailerTurns v), .int (Ta_comparedSteps v)]), ((q 1), aI K 8 f2), ((q 2), aI K 8 f4), ((q 3), aI K 8 (Ta_alarmLeaderSteps v)), ((q 4), aI K 8 (Ta_alarmTrailerSteps v))]) cx 2 rfl (by rw [ex1]; exact ix_and7 _) dX8_addAlarm_27 ef4 rfl ?_
  refine r_aload_n (pc := 28) cx dX8_addAlarm_28 1 rfl ?_
  refine r_get (pc := 29) cx cf_X8 0 2 rfl (by decide) rfl wd_432 dX8_addAlarm_29 ?_
  refine r_iload (pc := 32) cx dX8_addAlarm_32 0 rfl ?_
  refine r_iload_n (pc := 34) cx dX8_addAlarm_34 3 rfl ?_
  obtain ⟨f5, ef5, hf⟩ := nm_of hf
  refine r_iast (pc := 35) (ws' := [((q 0), ob 7 [.ref (q 1), .ref (q 2), .ref (q 3), .ref (q 4), .int (Ta_turns v), .int (Ta_points v), .int (Ta_alarms v), .int (Ta_alarmsSincePoint v), .int (Ta_greatestAhead v), .int (Ta_aheadSum v), .int (Ta_leaderTurns v), .int (Ta_trailerTurns v), .int (Ta_comparedSteps v)]), ((q 1), aI K 8 f2), ((q 2), aI K 8 f4), ((q 3), aI K 8 f5), ((q 4), aI K 8 (Ta_alarmTrailerSteps v))]) cx 3 rfl (by rw [ex1]; exact ix_and7 _) dX8_addAlarm_35 ef5 rfl ?_
  refine r_aload_n (pc := 36) cx dX8_addAlarm_36 1 rfl ?_
  refine r_get (pc := 37) cx cf_X8 0 3 rfl (by decide) rfl wd_433 dX8_addAlarm_37 ?_
  refine r_iload (pc := 40) cx dX8_addAlarm_40 0 rfl ?_
  refine r_iload_n (pc := 42) cx dX8_addAlarm_42 4 rfl ?_
  obtain ⟨f6, ef6, hf⟩ := nm_of hf
  refine r_iast (pc := 43) (ws' := [((q 0), ob 7 [.ref (q 1), .ref (q 2), .ref (q 3), .ref (q 4), .int (Ta_turns v), .int (Ta_points v), .int (Ta_alarms v), .int (Ta_alarmsSincePoint v), .int (Ta_greatestAhead v), .int (Ta_aheadSum v), .int (Ta_leaderTurns v), .int (Ta_trailerTurns v), .int (Ta_comparedSteps v)]), ((q 1), aI K 8 f2), ((q 2), aI K 8 f4), ((q 3), aI K 8 f5), ((q 4), aI K 8 f6)]) cx 4 rfl (by rw [ex1]; exact ix_and7 _) dX8_addAlarm_43 ef6 rfl ?_
  refine r_aload_n (pc := 44) cx dX8_addAlarm_44 1 rfl ?_
  refine r_dup (pc := 45) cx dX8_addAlarm_45 rfl ?_
  refine r_get (pc := 46) cx cf_X8 0 6 rfl (by decide) rfl wd_439 dX8_addAlarm_46 ?_
  refine r_iconst (pc := 49) cx dX8_addAlarm_49 ic_1 ?_
  refine r_iadd (pc := 50) cx dX8_addAlarm_50 ?_
  obtain ⟨x7, ex7, hf⟩ := nm_of hf
  refine r_nm ex7 ?_
  refine r_putI (pc := 51) (ws' := [((q 0), ob 7 [.ref (q 1), .ref (q 2), .ref (q 3), .ref (q 4), .int (Ta_turns v), .int (Ta_points v), .int x7, .int (Ta_alarmsSincePoint v), .int (Ta_greatestAhead v), .int (Ta_aheadSum v), .int (Ta_leaderTurns v), .int (Ta_trailerTurns v), .int (Ta_comparedSteps v)]), ((q 1), aI K 8 f2), ((q 2), aI K 8 f4), ((q 3), aI K 8 f5), ((q 4), aI K 8 f6)]) cx cf_X8 0 6 rfl (by decide) (Nat.le_of_ble_eq_true rfl) rfl pfd_I wd_439 dX8_addAlarm_51 rfl ?_
  refine r_aload_n (pc := 54) cx dX8_addAlarm_54 1 rfl ?_
  refine r_dup (pc := 55) cx dX8_addAlarm_55 rfl ?_
  refine r_get (pc := 56) cx cf_X8 0 7 rfl (by decide) rfl wd_441 dX8_addAlarm_56 ?_
  refine r_iconst (pc := 59) cx dX8_addAlarm_59 ic_1 ?_
  refine r_iadd (pc := 60) cx dX8_addAlarm_60 ?_
  obtain ⟨x8, ex8, hf⟩ := nm_of hf
  refine r_nm ex8 ?_
  refine r_putI (pc := 61) (ws' := [((q 0), ob 7 [.ref (q 1), .ref (q 2), .ref (q 3), .ref (q 4), .int (Ta_turns v), .int (Ta_points v), .int x7, .int x8, .int (Ta_greatestAhead v), .int (Ta_aheadSum v), .int (Ta_leaderTurns v), .int (Ta_trailerTurns v), .int (Ta_comparedSteps v)]), ((q 1), aI K 8 f2), ((q 2), aI K 8 f4), ((q 3), aI K 8 f5), ((q 4), aI K 8 f6)]) cx cf_X8 0 7 rfl (by decide) (Nat.le_of_ble_eq_true rfl) rfl pfd_I wd_441 dX8_addAlarm_61 rfl ?_
  cases hf
  exact r_vret (pc := 64) cx rfl dX8_addAlarm_64
theorem yv_X8_addAlarm : YV yX8_addAlarm cX8_addAlarm 5 (none) 3 := ⟨⟨by decide +kernel, by decide +kernel, by decide +kernel⟩, wd_915, wd_99, wd_913, wd_914⟩
def f_Ta_alarmPart (v : T_Ta) (a1 : Int32) (a2 : Int32) : Option (Int32) :=
  (if a1 < (0 : Int32) then (some (-1 : Int32)) else (if (Ta_alarms v) ≤ a1 then (some (-1 : Int32)) else (if a1 ≤ (7 : Int32) then (nm ((((Ta_alarms v) - (1 : Int32)) - a1) &&& (7 : Int32)) fun (x4 : Int32) => (if a2 = (0 : Int32) then (some ((Ta_alarmSort v) x4.toNatClampNeg)) else (if a2 = (1 : Int32) then (some ((Ta_alarmTurn v) x4.toNatClampNeg)) else (if a2 = (2 : Int32) then (some ((Ta_alarmLeaderSteps v) x4.toNatClampNeg)) else (if a2 = (3 : Int32) then (some ((Ta_alarmTrailerSteps v) x4.toNatClampNeg)) else (some (-1 : Int32))))))) else (some (-1 : Int32)))))
abbrev rm_Ta_alarmPart : Room := { frames := 0, cells := 0, slots := 0, locals := 0 }
set_option maxRecDepth 100000 in
set_option maxHeartbeats 4000000 in
theorem m_Ta_alarmPart (l : Launch) (D : va_G) (K : Nat → ClassId) (q : Nat → Nat) (v : T_Ta) (a1 : Int32) (a2 : Int32) {r_ : Int32} (hf : f_Ta_alarmPart v a1 a2 = some r_) : MI l yX8_alarmPart cX8_alarmPart 4 (some .int) rm_Ta_alarmPart D K [.ref (q 0), .int a1, .int a2] (cl_Ta K q v) r_ (cl_Ta K q v) := by
  refine MI_of (loc0 := [(0, .ref (q 0)), (1, .int a1), (2, .int a2)]) (by decide +kernel) rfl (Nat.le_of_ble_eq_true rfl) ?_
  intro p e s m args below meth c A cx
  unfold f_Ta_alarmPart at hf
  refine r_ws (ws' := [((q 0), ob 7 [.ref (q 1), .ref (q 2), .ref (q 3), .ref (q 4), .int (Ta_turns v), .int (Ta_points v), .int (Ta_alarms v), .int (Ta_alarmsSincePoint v), .int (Ta_greatestAhead v), .int (Ta_aheadSum v), .int (Ta_leaderTurns v), .int (Ta_trailerTurns v), .int (Ta_comparedSteps v)]), ((q 1), aI K 8 (Ta_alarmSort v)), ((q 2), aI K 8 (Ta_alarmTurn v)), ((q 3), aI K 8 (Ta_alarmLeaderSteps v)), ((q 4), aI K 8 (Ta_alarmTrailerSteps v))]) rfl ?_
  refine r_iload_n (pc := 0) cx dX8_alarmPart_0 1 rfl ?_
  refine r_if_lt (pc := 1) (tgt := 18) cx dX8_alarmPart_1 (by decide) (fun h1 => ?_) (fun h1 => ?_)
  · have hf := ifp h1 hf
    refine r_iconst (pc := 18) cx dX8_alarmPart_18 ic_m1 ?_
    cases hf
    exact r_iret (pc := 19) cx rfl rfl dX8_alarmPart_19
  · have hf := ifn h1 hf
    refine r_iload_n (pc := 4) cx dX8_alarmPart_4 1 rfl ?_
    refine r_aload_n (pc := 5) cx dX8_alarmPart_5 0 rfl ?_
    refine r_get (pc := 6) cx cf_X8 0 6 rfl (by decide) rfl wd_439 dX8_alarmPart_6 ?_
    refine r_icmp_ge (pc := 9) (tgt := 18) cx dX8_alarmPart_9 (by decide) (fun h2 => ?_) (fun h2 => ?_)
    · have hf := ifp h2 hf
      refine r_iconst (pc := 18) cx dX8_alarmPart_18 ic_m1 ?_
      cases hf
      exact r_iret (pc := 19) cx rfl rfl dX8_alarmPart_19
    · have hf := ifn h2 hf
      refine r_iload_n (pc := 12) cx dX8_alarmPart_12 1 rfl ?_
      refine r_bipush (pc := 13) cx dX8_alarmPart_13 bp_7 ?_
      refine r_icmp_le (pc := 15) (tgt := 20) cx dX8_alarmPart_15 (by decide) (fun h3 => ?_) (fun h3 => ?_)
      · have hf := ifp h3 hf
        refine r_aload_n (pc := 20) cx dX8_alarmPart_20 0 rfl ?_
        refine r_get (pc := 21) cx cf_X8 0 6 rfl (by decide) rfl wd_439 dX8_alarmPart_21 ?_
        refine r_iconst (pc := 24) cx dX8_alarmPart_24 ic_1 ?_
        refine r_isub (pc := 25) cx dX8_alarmPart_25 ?_
        refine r_iload_n (pc := 26) cx dX8_alarmPart_26 1 rfl ?_
        refine r_isub (pc := 27) cx dX8_alarmPart_27 ?_
        refine r_bipush (pc := 28) cx dX8_alarmPart_28 bp_7 ?_
        refine r_iand (pc := 30) cx dX8_alarmPart_30 ?_
        obtain ⟨x4, ex4, hf⟩ := nm_of hf
        refine r_nm ex4 ?_
        refine r_istore_n (pc := 31) (loc' := [(3, .int x4), (0, .ref (q 0)), (1, .int a1), (2, .int a2)]) cx dX8_alarmPart_31 rfl (by decide) rfl ?_
        refine r_iload_n (pc := 32) cx dX8_alarmPart_32 3 rfl ?_
        by_cases h5 : a2 = (0 : Int32)
        · have hf := ifp h5 hf
          refine r_tin (pc := 33) (tgt := 64) cx (0 : Int32) h5 dX8_alarmPart_33 (by decide) (by decide) rfl (by decide) ?_
          refine r_aload_n (pc := 64) cx dX8_alarmPart_64 1 rfl ?_
          refine r_get (pc := 65) cx cf_X8 0 0 rfl (by decide) rfl wd_430 dX8_alarmPart_65 ?_
          refine r_iload_n (pc := 68) cx dX8_alarmPart_68 0 rfl ?_
          refine r_iald (pc := 69) cx 1 rfl (by rw [ex4]; exact ix_and7 _) dX8_alarmPart_69 ?_
          cases hf
          exact r_iret (pc := 70) cx rfl rfl dX8_alarmPart_70
        · have hf := ifn h5 hf
          by_cases h6 : a2 = (1 : Int32)
          · have hf := ifp h6 hf
            refine r_tin (pc := 33) (tgt := 71) cx (1 : Int32) h6 dX8_alarmPart_33 (by decide) (by decide) rfl (by decide) ?_
            refine r_aload_n (pc := 71) cx dX8_alarmPart_71 1 rfl ?_
            refine r_get (pc := 72) cx cf_X8 0 1 rfl (by decide) rfl wd_431 dX8_alarmPart_72 ?_
            refine r_iload_n (pc := 75) cx dX8_alarmPart_75 0 rfl ?_
            refine r_iald (pc := 76) cx 2 rfl (by rw [ex4]; exact ix_and7 _) dX8_alarmPart_76 ?_
            cases hf
            exact r_iret (pc := 77) cx rfl rfl dX8_alarmPart_77
          · have hf := ifn h6 hf
            by_cases h7 : a2 = (2 : Int32)
            · have hf := ifp h7 hf
              refine r_tin (pc := 33) (tgt := 78) cx (2 : Int32) h7 dX8_alarmPart_33 (by decide) (by decide) rfl (by decide) ?_
              refine r_aload_n (pc := 78) cx dX8_alarmPart_78 1 rfl ?_
              refine r_get (pc := 79) cx cf_X8 0 2 rfl (by decide) rfl wd_432 dX8_alarmPart_79 ?_
              refine r_iload_n (pc := 82) cx dX8_alarmPart_82 0 rfl ?_
              refine r_iald (pc := 83) cx 3 rfl (by rw [ex4]; exact ix_and7 _) dX8_alarmPart_83 ?_
              cases hf
              exact r_iret (pc := 84) cx rfl rfl dX8_alarmPart_84
            · have hf := ifn h7 hf
              by_cases h8 : a2 = (3 : Int32)
              · have hf := ifp h8 hf
                refine r_tin (pc := 33) (tgt := 85) cx (3 : Int32) h8 dX8_alarmPart_33 (by decide) (by decide) rfl (by decide) ?_
                refine r_aload_n (pc := 85) cx dX8_alarmPart_85 1 rfl ?_
                refine r_get (pc := 86) cx cf_X8 0 3 rfl (by decide) rfl wd_433 dX8_alarmPart_86 ?_
                refine r_iload_n (pc := 89) cx dX8_alarmPart_89 0 rfl ?_
                refine r_iald (pc := 90) cx 4 rfl (by rw [ex4]; exact ix_and7 _) dX8_alarmPart_90 ?_
                cases hf
                exact r_iret (pc := 91) cx rfl rfl dX8_alarmPart_91
              · have hf := ifn h8 hf
                refine r_tout (pc := 33) (tgt := 92) cx dX8_alarmPart_33 (by
                  have nh5 := toInt_ne h5
                  have mh5 : (0 : Int32).toInt = 0 := by decide
                  rw [mh5] at nh5
                  have nh6 := toInt_ne h6
                  have mh6 : (1 : Int32).toInt = 1 := by decide
                  rw [mh6] at nh6
                  have nh7 := toInt_ne h7
                  have mh7 : (2 : Int32).toInt = 2 := by decide
                  rw [mh7] at nh7
                  have nh8 := toInt_ne h8
                  have mh8 : (3 : Int32).toInt = 3 := by decide
                  rw [mh8] at nh8
                  omega) (by decide) ?_
                refine r_iconst (pc := 92) cx dX8_alarmPart_92 ic_m1 ?_
                cases hf
                exact r_iret (pc := 93) cx rfl rfl dX8_alarmPart_93
      · have hf := ifn h3 hf
        refine r_iconst (pc := 18) cx dX8_alarmPart_18 ic_m1 ?_
        cases hf
        exact r_iret (pc := 19) cx rfl rfl dX8_alarmPart_19
theorem yv_X8_alarmPart : YV yX8_alarmPart cX8_alarmPart 4 (some .int) 2 := ⟨⟨by decide +kernel, by decide +kernel, by decide +kernel⟩, wd_997, wd_99, wd_995, wd_996⟩
def f_Ta_part (v : T_Ta) (a1 : Int32) : Option (Int32) :=
  (if a1 = (1 : Int32) then (some (Ta_turns v)) else (if a1 = (2 : Int32) then (some (Ta_points v)) else (if a1 = (3 : Int32) then (some (Ta_alarms v)) else (if a1 = (4 : Int32) then (some (Ta_alarmsSincePoint v)) else (if a1 = (5 : Int32) then (some (-1 : Int32)) else (if a1 = (6 : Int32) then (some (Ta_greatestAhead v)) else (if a1 = (7 : Int32) then (some (-1 : Int32)) else (if a1 = (8 : Int32) then (some (-1 : Int32)) else (if a1 = (9 : Int32) then (some (-1 : Int32)) else (if a1 = (10 : Int32) then (some (-1 : Int32)) else (if a1 = (11 : Int32) then (some (-1 : Int32)) else (if a1 = (12 : Int32) then (some (-1 : Int32)) else (if a1 = (13 : Int32) then (some (-1 : Int32)) else (if a1 = (14 : Int32) then (some (-1 : Int32)) else (if a1 = (15 : Int32) then (some (Ta_leaderTurns v)) else (if a1 = (16 : Int32) then (some (Ta_trailerTurns v)) else (some (-1 : Int32))))))))))))))))))
abbrev rm_Ta_part : Room := { frames := 0, cells := 0, slots := 0, locals := 0 }
set_option maxRecDepth 100000 in
set_option maxHeartbeats 4000000 in
theorem m_Ta_part (l : Launch) (D : va_G) (K : Nat → ClassId) (q : Nat → Nat) (v : T_Ta) (a1 : Int32) {r_ : Int32} (hf : f_Ta_part v a1 = some r_) : MI l yX8_part cX8_part 2 (some .int) rm_Ta_part D K [.ref (q 0), .int a1] (cl_Ta K q v) r_ (cl_Ta K q v) := by
  refine MI_of (loc0 := [(0, .ref (q 0)), (1, .int a1)]) (by decide +kernel) rfl (Nat.le_of_ble_eq_true rfl) ?_
  intro p e s m args below meth c A cx
  unfold f_Ta_part at hf
  refine r_ws (ws' := [((q 0), ob 7 [.ref (q 1), .ref (q 2), .ref (q 3), .ref (q 4), .int (Ta_turns v), .int (Ta_points v), .int (Ta_alarms v), .int (Ta_alarmsSincePoint v), .int (Ta_greatestAhead v), .int (Ta_aheadSum v), .int (Ta_leaderTurns v), .int (Ta_trailerTurns v), .int (Ta_comparedSteps v)]), ((q 1), aI K 8 (Ta_alarmSort v)), ((q 2), aI K 8 (Ta_alarmTurn v)), ((q 3), aI K 8 (Ta_alarmLeaderSteps v)), ((q 4), aI K 8 (Ta_alarmTrailerSteps v))]) rfl ?_
  refine r_iload_n (pc := 0) cx dX8_part_0 1 rfl ?_
  by_cases h1 : a1 = (1 : Int32)
  · have hf := ifp h1 hf
    refine r_tin (pc := 1) (tgt := 80) cx (1 : Int32) h1 dX8_part_1 (by decide) (by decide) rfl (by decide) ?_
    refine r_aload_n (pc := 80) cx dX8_part_80 0 rfl ?_
    refine r_get (pc := 81) cx cf_X8 0 4 rfl (by decide) rfl wd_434 dX8_part_81 ?_
    cases hf
    exact r_iret (pc := 84) cx rfl rfl dX8_part_84
  · have hf := ifn h1 hf
    by_cases h2 : a1 = (2 : Int32)
    · have hf := ifp h2 hf
      refine r_tin (pc := 1) (tgt := 85) cx (2 : Int32) h2 dX8_part_1 (by decide) (by decide) rfl (by decide) ?_
      refine r_aload_n (pc := 85) cx dX8_part_85 0 rfl ?_
      refine r_get (pc := 86) cx cf_X8 0 5 rfl (by decide) rfl wd_437 dX8_part_86 ?_
      cases hf
      exact r_iret (pc := 89) cx rfl rfl dX8_part_89
    · have hf := ifn h2 hf
      by_cases h3 : a1 = (3 : Int32)
      · have hf := ifp h3 hf
        refine r_tin (pc := 1) (tgt := 90) cx (3 : Int32) h3 dX8_part_1 (by decide) (by decide) rfl (by decide) ?_
        refine r_aload_n (pc := 90) cx dX8_part_90 0 rfl ?_
        refine r_get (pc := 91) cx cf_X8 0 6 rfl (by decide) rfl wd_439 dX8_part_91 ?_
        cases hf
        exact r_iret (pc := 94) cx rfl rfl dX8_part_94
      · have hf := ifn h3 hf
        by_cases h4 : a1 = (4 : Int32)
        · have hf := ifp h4 hf
          refine r_tin (pc := 1) (tgt := 95) cx (4 : Int32) h4 dX8_part_1 (by decide) (by decide) rfl (by decide) ?_
          refine r_aload_n (pc := 95) cx dX8_part_95 0 rfl ?_
          refine r_get (pc := 96) cx cf_X8 0 7 rfl (by decide) rfl wd_441 dX8_part_96 ?_
          cases hf
          exact r_iret (pc := 99) cx rfl rfl dX8_part_99
        · have hf := ifn h4 hf
          by_cases h6 : a1 = (5 : Int32)
          · have hf := ifp h6 hf
            refine r_tin (pc := 1) (tgt := 115) cx (5 : Int32) h6 dX8_part_1 (by decide) (by decide) rfl (by decide) ?_
            refine r_iconst (pc := 115) cx dX8_part_115 ic_m1 ?_
            cases hf
            exact r_iret (pc := 116) cx rfl rfl dX8_part_116
          · have hf := ifn h6 hf
            by_cases h7 : a1 = (6 : Int32)
            · have hf := ifp h7 hf
              refine r_tin (pc := 1) (tgt := 100) cx (6 : Int32) h7 dX8_part_1 (by decide) (by decide) rfl (by decide) ?_
              refine r_aload_n (pc := 100) cx dX8_part_100 0 rfl ?_
              refine r_get (pc := 101) cx cf_X8 0 8 rfl (by decide) rfl wd_443 dX8_part_101 ?_
              cases hf
              exact r_iret (pc := 104) cx rfl rfl dX8_part_104
            · have hf := ifn h7 hf
              by_cases h9 : a1 = (7 : Int32)
              · have hf := ifp h9 hf
                refine r_tin (pc := 1) (tgt := 115) cx (7 : Int32) h9 dX8_part_1 (by decide) (by decide) rfl (by decide) ?_
                refine r_iconst (pc := 115) cx dX8_part_115 ic_m1 ?_
                cases hf
                exact r_iret (pc := 116) cx rfl rfl dX8_part_116
              · have hf := ifn h9 hf
                by_cases h11 : a1 = (8 : Int32)
                · have hf := ifp h11 hf
                  refine r_tin (pc := 1) (tgt := 115) cx (8 : Int32) h11 dX8_part_1 (by decide) (by decide) rfl (by decide) ?_
                  refine r_iconst (pc := 115) cx dX8_part_115 ic_m1 ?_
                  cases hf
                  exact r_iret (pc := 116) cx rfl rfl dX8_part_116
                · have hf := ifn h11 hf
                  by_cases h13 : a1 = (9 : Int32)
                  · have hf := ifp h13 hf
                    refine r_tin (pc := 1) (tgt := 115) cx (9 : Int32) h13 dX8_part_1 (by decide) (by decide) rfl (by decide) ?_
                    refine r_iconst (pc := 115) cx dX8_part_115 ic_m1 ?_
                    cases hf
                    exact r_iret (pc := 116) cx rfl rfl dX8_part_116
                  · have hf := ifn h13 hf
                    by_cases h15 : a1 = (10 : Int32)
                    · have hf := ifp h15 hf
                      refine r_tin (pc := 1) (tgt := 115) cx (10 : Int32) h15 dX8_part_1 (by decide) (by decide) rfl (by decide) ?_
                      refine r_iconst (pc := 115) cx dX8_part_115 ic_m1 ?_
                      cases hf
                      exact r_iret (pc := 116) cx rfl rfl dX8_part_116
                    · have hf := ifn h15 hf
                      by_cases h17 : a1 = (11 : Int32)
                      · have hf := ifp h17 hf
                        refine r_tin (pc := 1) (tgt := 115) cx (11 : Int32) h17 dX8_part_1 (by decide) (by decide) rfl (by decide) ?_
                        refine r_iconst (pc := 115) cx dX8_part_115 ic_m1 ?_
                        cases hf
                        exact r_iret (pc := 116) cx rfl rfl dX8_part_116
                      · have hf := ifn h17 hf
                        by_cases h19 : a1 = (12 : Int32)
                        · have hf := ifp h19 hf
                          refine r_tin (pc := 1) (tgt := 115) cx (12 : Int32) h19 dX8_part_1 (by decide) (by decide) rfl (by decide) ?_
                          refine r_iconst (pc := 115) cx dX8_part_115 ic_m1 ?_
                          cases hf
                          exact r_iret (pc := 116) cx rfl rfl dX8_part_116
                        · have hf := ifn h19 hf
                          by_cases h21 : a1 = (13 : Int32)
                          · have hf := ifp h21 hf
                            refine r_tin (pc := 1) (tgt := 115) cx (13 : Int32) h21 dX8_part_1 (by decide) (by decide) rfl (by decide) ?_
                            refine r_iconst (pc := 115) cx dX8_part_115 ic_m1 ?_
                            cases hf
                            exact r_iret (pc := 116) cx rfl rfl dX8_part_116
                          · have hf := ifn h21 hf
                            by_cases h23 : a1 = (14 : Int32)
                            · have hf := ifp h23 hf
                              refine r_tin (pc := 1) (tgt := 115) cx (14 : Int32) h23 dX8_part_1 (by decide) (by decide) rfl (by decide) ?_
                              refine r_iconst (pc := 115) cx dX8_part_115 ic_m1 ?_
                              cases hf
                              exact r_iret (pc := 116) cx rfl rfl dX8_part_116
                            · have hf := ifn h23 hf
                              by_cases h24 : a1 = (15 : Int32)
                              · have hf := ifp h24 hf
                                refine r_tin (pc := 1) (tgt := 105) cx (15 : Int32) h24 dX8_part_1 (by decide) (by decide) rfl (by decide) ?_
                                refine r_aload_n (pc := 105) cx dX8_part_105 0 rfl ?_
                                refine r_get (pc := 106) cx cf_X8 0 10 rfl (by decide) rfl wd_448 dX8_part_106 ?_
                                cases hf
                                exact r_iret (pc := 109) cx rfl rfl dX8_part_109
                              · have hf := ifn h24 hf
                                by_cases h25 : a1 = (16 : Int32)
                                · have hf := ifp h25 hf
                                  refine r_tin (pc := 1) (tgt := 110) cx (16 : Int32) h25 dX8_part_1 (by decide) (by decide) rfl (by decide) ?_
                                  refine r_aload_n (pc := 110) cx dX8_part_110 0 rfl ?_
                                  refine r_get (pc := 111) cx cf_X8 0 11 rfl (by decide) rfl wd_450 dX8_part_111 ?_
                                  cases hf
                                  exact r_iret (pc := 114) cx rfl rfl dX8_part_114
                                · have hf := ifn h25 hf
                                  refine r_tout (pc := 1) (tgt := 115) cx dX8_part_1 (by
                                    have nh1 := toInt_ne h1
                                    have mh1 : (1 : Int32).toInt = 1 := by decide
                                    rw [mh1] at nh1
                                    have nh2 := toInt_ne h2
                                    have mh2 : (2 : Int32).toInt = 2 := by decide
                                    rw [mh2] at nh2
                                    have nh3 := toInt_ne h3
                                    have mh3 : (3 : Int32).toInt = 3 := by decide
                                    rw [mh3] at nh3
                                    have nh4 := toInt_ne h4
                                    have mh4 : (4 : Int32).toInt = 4 := by decide
                                    rw [mh4] at nh4
                                    have nh6 := toInt_ne h6
                                    have mh6 : (5 : Int32).toInt = 5 := by decide
                                    rw [mh6] at nh6
                                    have nh7 := toInt_ne h7
                                    have mh7 : (6 : Int32).toInt = 6 := by decide
                                    rw [mh7] at nh7
                                    have nh9 := toInt_ne h9
                                    have mh9 : (7 : Int32).toInt = 7 := by decide
                                    rw [mh9] at nh9
                                    have nh11 := toInt_ne h11
                                    have mh11 : (8 : Int32).toInt = 8 := by decide
                                    rw [mh11] at nh11
                                    have nh13 := toInt_ne h13
                                    have mh13 : (9 : Int32).toInt = 9 := by decide
                                    rw [mh13] at nh13
                                    have nh15 := toInt_ne h15
                                    have mh15 : (10 : Int32).toInt = 10 := by decide
                                    rw [mh15] at nh15
                                    have nh17 := toInt_ne h17
                                    have mh17 : (11 : Int32).toInt = 11 := by decide
                                    rw [mh17] at nh17
                                    have nh19 := toInt_ne h19
                                    have mh19 : (12 : Int32).toInt = 12 := by decide
                                    rw [mh19] at nh19
                                    have nh21 := toInt_ne h21
                                    have mh21 : (13 : Int32).toInt = 13 := by decide
                                    rw [mh21] at nh21
                                    have nh23 := toInt_ne h23
                                    have mh23 : (14 : Int32).toInt = 14 := by decide
                                    rw [mh23] at nh23
                                    have nh24 := toInt_ne h24
                                    have mh24 : (15 : Int32).toInt = 15 := by decide
                                    rw [mh24] at nh24
                                    have nh25 := toInt_ne h25
                                    have mh25 : (16 : Int32).toInt = 16 := by decide
                                    rw [mh25] at nh25
                                    omega) (by decide) ?_
                                  refine r_iconst (pc := 115) cx dX8_part_115 ic_m1 ?_
                                  cases hf
                                  exact r_iret (pc := 116) cx rfl rfl dX8_part_116
theorem yv_X8_part : YV yX8_part cX8_part 2 (some .int) 1 := ⟨⟨by decide +kernel, by decide +kernel, by decide +kernel⟩, wd_1192, wd_99, wd_1190, wd_1191⟩
