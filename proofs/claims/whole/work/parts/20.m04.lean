def f_M_leaderHolds (v : T_M) (a1 : Int32) (a2 : Int32) : Option (Int32 × T_M) :=
  (if ix ((114 : Int32) + ((M_s (M_rn v)) (112 : Int32).toNatClampNeg)) 314 then (nm (upd (M_s (M_rn v)) (((114 : Int32) + ((M_s (M_rn v)) (112 : Int32).toNatClampNeg))).toNatClampNeg a1) fun (f2 : Nat → Int32) => (if ix ((122 : Int32) + (f2 (112 : Int32).toNatClampNeg)) 314 then (nm (upd f2 (((122 : Int32) + (f2 (112 : Int32).toNatClampNeg))).toNatClampNeg a2) fun (f4 : Nat → Int32) => (nm ((f4 (112 : Int32).toNatClampNeg) + (1 : Int32)) fun (x5 : Int32) => (nm (upd f4 (112 : Int32).toNatClampNeg x5) fun (f6 : Nat → Int32) => (some ((0 : Int32), ((M_tp v), (M_rd v), (M_lf v), (M_cd v), (f6, (M_spanNow (M_rn v)), (M_sizeNow (M_rn v)), (M_placeThen (M_rn v))), (M_ex v), (M_im v), (M_al v), (M_thrown v))))))) else none)) else none)
abbrev rm_M_leaderHolds : Room := { frames := 0, cells := 0, slots := 0, locals := 0 }
set_option maxRecDepth 100000 in
set_option maxHeartbeats 4000000 in
theorem m_M_leaderHolds (l : Launch) (D : va_G) (K : Nat → ClassId) (q : Nat → Nat) (v : T_M) (a1 : Int32) (a2 : Int32) {r_ : Int32} {o_v : T_M} (hf : f_M_leaderHolds v a1 a2 = some (r_, o_v)) : MI l yX10_leaderHolds cX10_leaderHolds 3 (some .int) rm_M_leaderHolds D K [.ref (q 0), .int a1, .int a2] (cl_M K q v) r_ (cl_M K q o_v) := by
  refine MI_of (loc0 := [(0, .ref (q 0)), (1, .int a1), (2, .int a2)]) (by decide +kernel) rfl (Nat.le_of_ble_eq_true rfl) ?_
  intro p e s m args below meth c A cx
  unfold f_M_leaderHolds at hf
  refine r_ws (ws' := [((q 0), ob 9 [.int (M_thrown v), .ref (q 1), .int (M_taped (M_tp v)), .ref (q 2), .ref (q 3), .ref (q 4), .ref (q 5), .ref (q 6), .ref (q 7), .ref (q 8), .ref (q 9), .ref (q 10), .ref (q 11), .ref (q 12), .ref (q 13), .ref (q 14), .int (M_lines (M_rd v)), .int (M_size (M_rd v)), .int (M_at (M_rd v)), .int (M_place (M_rd v)), .int (M_sort (M_rd v)), .int (M_value (M_rd v)), .int (M_fault (M_rd v)), .int (M_faultPlace (M_rd v)), .int (M_lastFault (M_lf v)), .int (M_lastPlace (M_lf v)), .ref (q 15), .ref (q 16), .ref (q 17), .ref (q 18), .int (M_hasImage (M_im v)), .int (M_spanNow (M_rn v)), .ref (q 19), .int (M_placeThen (M_rn v)), .int (M_alonePlace (M_al v)), .int (M_aloneSteps (M_al v)), .int (M_aloneOut (M_al v)), .ref (q 20), .ref (q 21), .ref (q 22), .ref (q 23), .int (M_shotAlarm (M_ex v)), .int (M_drawn (M_ex v))]), ((q 1), aI K 700 (M_tape (M_tp v))), ((q 2), aI K 20 (M_number (M_cd v))), ((q 3), aZ K 5 (M_isTold (M_rd v))), ((q 4), aI K 80 (M_codeSort (M_cd v))), ((q 5), aI K 80 (M_codeA (M_cd v))), ((q 6), aI K 80 (M_codeB (M_cd v))), ((q 7), aI K 80 (M_codeC (M_cd v))), ((q 8), aI K 80 (M_codeName (M_cd v))), ((q 9), aI K 80 (M_codePlace (M_cd v))), ((q 10), aI K 80 (M_codeTo (M_cd v))), ((q 11), aI K 280 (M_labelName (M_cd v))), ((q 12), aI K 280 (M_labelAt (M_cd v))), ((q 13), aI K 64 (M_data (M_cd v))), ((q 14), aZ K 32 (M_hasData (M_rd v))), ((q 15), aI K 314 (M_s (M_rn v))), ((q 16), aI K 314 (M_aside (M_ex v))), ((q 17), aI K 314 (M_further (M_ex v))), ((q 18), aI K 314 (M_image (M_im v))), ((q 19), aI K 3 (M_sizeNow (M_rn v))), ((q 20), aI K 8 (M_aloneRegister (M_al v))), ((q 21), aI K 4 (M_aloneReal (M_al v))), ((q 22), aI K 32 (M_aloneMemory (M_al v))), ((q 23), aI K 999 (M_aloneOutput (M_al v)))]) rfl ?_
  refine r_aload_n (pc := 0) cx dX10_leaderHolds_0 0 rfl ?_
  refine r_get (pc := 1) cx cf_X10 0 26 rfl (by decide) rfl wd_1342 dX10_leaderHolds_1 ?_
  refine r_bipush (pc := 4) cx dX10_leaderHolds_4 bp_114 ?_
  refine r_aload_n (pc := 6) cx dX10_leaderHolds_6 0 rfl ?_
  refine r_get (pc := 7) cx cf_X10 0 26 rfl (by decide) rfl wd_1342 dX10_leaderHolds_7 ?_
  refine r_bipush (pc := 10) cx dX10_leaderHolds_10 bp_112 ?_
  refine r_iald (pc := 12) cx 15 rfl (by decide) dX10_leaderHolds_12 ?_
  refine r_iadd (pc := 13) cx dX10_leaderHolds_13 ?_
  refine r_iload_n (pc := 14) cx dX10_leaderHolds_14 1 rfl ?_
  obtain ⟨h1, hf⟩ := chk_of hf
  obtain ⟨f2, ef2, hf⟩ := nm_of hf
  refine r_iast (pc := 15) (ws' := [((q 0), ob 9 [.int (M_thrown v), .ref (q 1), .int (M_taped (M_tp v)), .ref (q 2), .ref (q 3), .ref (q 4), .ref (q 5), .ref (q 6), .ref (q 7), .ref (q 8), .ref (q 9), .ref (q 10), .ref (q 11), .ref (q 12), .ref (q 13), .ref (q 14), .int (M_lines (M_rd v)), .int (M_size (M_rd v)), .int (M_at (M_rd v)), .int (M_place (M_rd v)), .int (M_sort (M_rd v)), .int (M_value (M_rd v)), .int (M_fault (M_rd v)), .int (M_faultPlace (M_rd v)), .int (M_lastFault (M_lf v)), .int (M_lastPlace (M_lf v)), .ref (q 15), .ref (q 16), .ref (q 17), .ref (q 18), .int (M_hasImage (M_im v)), .int (M_spanNow (M_rn v)), .ref (q 19), .int (M_placeThen (M_rn v)), .int (M_alonePlace (M_al v)), .int (M_aloneSteps (M_al v)), .int (M_aloneOut (M_al v)), .ref (q 20), .ref (q 21), .ref (q 22), .ref (q 23), .int (M_shotAlarm (M_ex v)), .int (M_drawn (M_ex v))]), ((q 1), aI K 700 (M_tape (M_tp v))), ((q 2), aI K 20 (M_number (M_cd v))), ((q 3), aZ K 5 (M_isTold (M_rd v))), ((q 4), aI K 80 (M_codeSort (M_cd v))), ((q 5), aI K 80 (M_codeA (M_cd v))), ((q 6), aI K 80 (M_codeB (M_cd v))), ((q 7), aI K 80 (M_codeC (M_cd v))), ((q 8), aI K 80 (M_codeName (M_cd v))), ((q 9), aI K 80 (M_codePlace (M_cd v))), ((q 10), aI K 80 (M_codeTo (M_cd v))), ((q 11), aI K 280 (M_labelName (M_cd v))), ((q 12), aI K 280 (M_labelAt (M_cd v))), ((q 13), aI K 64 (M_data (M_cd v))), ((q 14), aZ K 32 (M_hasData (M_rd v))), ((q 15), aI K 314 f2), ((q 16), aI K 314 (M_aside (M_ex v))), ((q 17), aI K 314 (M_further (M_ex v))), ((q 18), aI K 314 (M_image (M_im v))), ((q 19), aI K 3 (M_sizeNow (M_rn v))), ((q 20), aI K 8 (M_aloneRegister (M_al v))), ((q 21), aI K 4 (M_aloneReal (M_al v))), ((q 22), aI K 32 (M_aloneMemory (M_al v))), ((q 23), aI K 999 (M_aloneOutput (M_al v)))]) cx 15 rfl h1 dX10_leaderHolds_15 ef2 rfl ?_
  refine r_aload_n (pc := 16) cx dX10_leaderHolds_16 0 rfl ?_
  refine r_get (pc := 17) cx cf_X10 0 26 rfl (by decide) rfl wd_1342 dX10_leaderHolds_17 ?_
  refine r_bipush (pc := 20) cx dX10_leaderHolds_20 bp_122 ?_
  refine r_aload_n (pc := 22) cx dX10_leaderHolds_22 0 rfl ?_
  refine r_get (pc := 23) cx cf_X10 0 26 rfl (by decide) rfl wd_1342 dX10_leaderHolds_23 ?_
  refine r_bipush (pc := 26) cx dX10_leaderHolds_26 bp_112 ?_
  refine r_iald (pc := 28) cx 15 rfl (by decide) dX10_leaderHolds_28 ?_
  refine r_iadd (pc := 29) cx dX10_leaderHolds_29 ?_
  refine r_iload_n (pc := 30) cx dX10_leaderHolds_30 2 rfl ?_
  obtain ⟨h3, hf⟩ := chk_of hf
  obtain ⟨f4, ef4, hf⟩ := nm_of hf
  refine r_iast (pc := 31) (ws' := [((q 0), ob 9 [.int (M_thrown v), .ref (q 1), .int (M_taped (M_tp v)), .ref (q 2), .ref (q 3), .ref (q 4), .ref (q 5), .ref (q 6), .ref (q 7), .ref (q 8), .ref (q 9), .ref (q 10), .ref (q 11), .ref (q 12), .ref (q 13), .ref (q 14), .int (M_lines (M_rd v)), .int (M_size (M_rd v)), .int (M_at (M_rd v)), .int (M_place (M_rd v)), .int (M_sort (M_rd v)), .int (M_value (M_rd v)), .int (M_fault (M_rd v)), .int (M_faultPlace (M_rd v)), .int (M_lastFault (M_lf v)), .int (M_lastPlace (M_lf v)), .ref (q 15), .ref (q 16), .ref (q 17), .ref (q 18), .int (M_hasImage (M_im v)), .int (M_spanNow (M_rn v)), .ref (q 19), .int (M_placeThen (M_rn v)), .int (M_alonePlace (M_al v)), .int (M_aloneSteps (M_al v)), .int (M_aloneOut (M_al v)), .ref (q 20), .ref (q 21), .ref (q 22), .ref (q 23), .int (M_shotAlarm (M_ex v)), .int (M_drawn (M_ex v))]), ((q 1), aI K 700 (M_tape (M_tp v))), ((q 2), aI K 20 (M_number (M_cd v))), ((q 3), aZ K 5 (M_isTold (M_rd v))), ((q 4), aI K 80 (M_codeSort (M_cd v))), ((q 5), aI K 80 (M_codeA (M_cd v))), ((q 6), aI K 80 (M_codeB (M_cd v))), ((q 7), aI K 80 (M_codeC (M_cd v))), ((q 8), aI K 80 (M_codeName (M_cd v))), ((q 9), aI K 80 (M_codePlace (M_cd v))), ((q 10), aI K 80 (M_codeTo (M_cd v))), ((q 11), aI K 280 (M_labelName (M_cd v))), ((q 12), aI K 280 (M_labelAt (M_cd v))), ((q 13), aI K 64 (M_data (M_cd v))), ((q 14), aZ K 32 (M_hasData (M_rd v))), ((q 15), aI K 314 f4), ((q 16), aI K 314 (M_aside (M_ex v))), ((q 17), aI K 314 (M_further (M_ex v))), ((q 18), aI K 314 (M_image (M_im v))), ((q 19), aI K 3 (M_sizeNow (M_rn v))), ((q 20), aI K 8 (M_aloneRegister (M_al v))), ((q 21), aI K 4 (M_aloneReal (M_al v))), ((q 22), aI K 32 (M_aloneMemory (M_al v))), ((q 23), aI K 999 (M_aloneOutput (M_al v)))]) cx 15 rfl h3 dX10_leaderHolds_31 ef4 rfl ?_
  refine r_aload_n (pc := 32) cx dX10_leaderHolds_32 0 rfl ?_
  refine r_get (pc := 33) cx cf_X10 0 26 rfl (by decide) rfl wd_1342 dX10_leaderHolds_33 ?_
  refine r_bipush (pc := 36) cx dX10_leaderHolds_36 bp_112 ?_
  refine r_dup2 (pc := 38) cx dX10_leaderHolds_38 rfl rfl ?_
  refine r_iald (pc := 39) cx 15 rfl (by decide) dX10_leaderHolds_39 ?_
  refine r_iconst (pc := 40) cx dX10_leaderHolds_40 ic_1 ?_
  refine r_iadd (pc := 41) cx dX10_leaderHolds_41 ?_
  obtain ⟨x5, ex5, hf⟩ := nm_of hf
  refine r_nm ex5 ?_
  obtain ⟨f6, ef6, hf⟩ := nm_of hf
  refine r_iast (pc := 42) (ws' := [((q 0), ob 9 [.int (M_thrown v), .ref (q 1), .int (M_taped (M_tp v)), .ref (q 2), .ref (q 3), .ref (q 4), .ref (q 5), .ref (q 6), .ref (q 7), .ref (q 8), .ref (q 9), .ref (q 10), .ref (q 11), .ref (q 12), .ref (q 13), .ref (q 14), .int (M_lines (M_rd v)), .int (M_size (M_rd v)), .int (M_at (M_rd v)), .int (M_place (M_rd v)), .int (M_sort (M_rd v)), .int (M_value (M_rd v)), .int (M_fault (M_rd v)), .int (M_faultPlace (M_rd v)), .int (M_lastFault (M_lf v)), .int (M_lastPlace (M_lf v)), .ref (q 15), .ref (q 16), .ref (q 17), .ref (q 18), .int (M_hasImage (M_im v)), .int (M_spanNow (M_rn v)), .ref (q 19), .int (M_placeThen (M_rn v)), .int (M_alonePlace (M_al v)), .int (M_aloneSteps (M_al v)), .int (M_aloneOut (M_al v)), .ref (q 20), .ref (q 21), .ref (q 22), .ref (q 23), .int (M_shotAlarm (M_ex v)), .int (M_drawn (M_ex v))]), ((q 1), aI K 700 (M_tape (M_tp v))), ((q 2), aI K 20 (M_number (M_cd v))), ((q 3), aZ K 5 (M_isTold (M_rd v))), ((q 4), aI K 80 (M_codeSort (M_cd v))), ((q 5), aI K 80 (M_codeA (M_cd v))), ((q 6), aI K 80 (M_codeB (M_cd v))), ((q 7), aI K 80 (M_codeC (M_cd v))), ((q 8), aI K 80 (M_codeName (M_cd v))), ((q 9), aI K 80 (M_codePlace (M_cd v))), ((q 10), aI K 80 (M_codeTo (M_cd v))), ((q 11), aI K 280 (M_labelName (M_cd v))), ((q 12), aI K 280 (M_labelAt (M_cd v))), ((q 13), aI K 64 (M_data (M_cd v))), ((q 14), aZ K 32 (M_hasData (M_rd v))), ((q 15), aI K 314 f6), ((q 16), aI K 314 (M_aside (M_ex v))), ((q 17), aI K 314 (M_further (M_ex v))), ((q 18), aI K 314 (M_image (M_im v))), ((q 19), aI K 3 (M_sizeNow (M_rn v))), ((q 20), aI K 8 (M_aloneRegister (M_al v))), ((q 21), aI K 4 (M_aloneReal (M_al v))), ((q 22), aI K 32 (M_aloneMemory (M_al v))), ((q 23), aI K 999 (M_aloneOutput (M_al v)))]) cx 15 rfl (by decide) dX10_leaderHolds_42 ef6 rfl ?_
  refine r_iconst (pc := 43) cx dX10_leaderHolds_43 ic_0 ?_
  cases hf
  exact r_iret (pc := 44) cx rfl rfl dX10_leaderHolds_44
theorem yv_X10_leaderHolds : YV yX10_leaderHolds cX10_leaderHolds 3 (some .int) 2 := ⟨⟨by decide +kernel, by decide +kernel, by decide +kernel⟩, wd_1622, wd_102, wd_1621, wd_64⟩
def f_M_trailerHolds (v : T_M) (a1 : Int32) (a2 : Int32) : Option (Int32 × T_M) :=
  (nm ((M_s (M_rn v)) (113 : Int32).toNatClampNeg) fun (x1 : Int32) => (if ix ((130 : Int32) + x1) 314 then (nm (upd (M_s (M_rn v)) (((130 : Int32) + x1)).toNatClampNeg a1) fun (f3 : Nat → Int32) => (if ix ((138 : Int32) + x1) 314 then (nm (upd f3 (((138 : Int32) + x1)).toNatClampNeg a2) fun (f5 : Nat → Int32) => (if ix ((114 : Int32) + x1) 314 then (if (f5 (((114 : Int32) + x1)).toNatClampNeg) = a1 then (if ix ((122 : Int32) + x1) 314 then (if (f5 (((122 : Int32) + x1)).toNatClampNeg) = a2 then (nm ((f5 (113 : Int32).toNatClampNeg) + (1 : Int32)) fun (x10 : Int32) => (nm (upd f5 (113 : Int32).toNatClampNeg x10) fun (f11 : Nat → Int32) => (some ((0 : Int32), ((M_tp v), (M_rd v), (M_lf v), (M_cd v), (f11, (M_spanNow (M_rn v)), (M_sizeNow (M_rn v)), (M_placeThen (M_rn v))), (M_ex v), (M_im v), (M_al v), (M_thrown v)))))) else (some ((3 : Int32), ((M_tp v), (M_rd v), (M_lf v), (M_cd v), (f5, (M_spanNow (M_rn v)), (M_sizeNow (M_rn v)), (M_placeThen (M_rn v))), (M_ex v), (M_im v), (M_al v), (M_thrown v))))) else none) else (some ((3 : Int32), ((M_tp v), (M_rd v), (M_lf v), (M_cd v), (f5, (M_spanNow (M_rn v)), (M_sizeNow (M_rn v)), (M_placeThen (M_rn v))), (M_ex v), (M_im v), (M_al v), (M_thrown v))))) else none)) else none)) else none))
abbrev rm_M_trailerHolds : Room := { frames := 0, cells := 0, slots := 0, locals := 0 }
set_option maxRecDepth 100000 in
set_option maxHeartbeats 4000000 in
theorem m_M_trailerHolds (l : Launch) (D : va_G) (K : Nat → ClassId) (q : Nat → Nat) (v : T_M) (a1 : Int32) (a2 : Int32) {r_ : Int32} {o_v : T_M} (hf : f_M_trailerHolds v a1 a2 = some (r_, o_v)) : MI l yX10_trailerHolds cX10_trailerHolds 4 (some .int) rm_M_trailerHolds D K [.ref (q 0), .int a1, .int a2] (cl_M K q v) r_ (cl_M K q o_v) := by
  refine MI_of (loc0 := [(0, .ref (q 0)), (1, .int a1), (2, .int a2)]) (by decide +kernel) rfl (Nat.le_of_ble_eq_true rfl) ?_
  intro p e s m args below meth c A cx
  unfold f_M_trailerHolds at hf
  refine r_ws (ws' := [((q 0), ob 9 [.int (M_thrown v), .ref (q 1), .int (M_taped (M_tp v)), .ref (q 2), .ref (q 3), .ref (q 4), .ref (q 5), .ref (q 6), .ref (q 7), .ref (q 8), .ref (q 9), .ref (q 10), .ref (q 11), .ref (q 12), .ref (q 13), .ref (q 14), .int (M_lines (M_rd v)), .int (M_size (M_rd v)), .int (M_at (M_rd v)), .int (M_place (M_rd v)), .int (M_sort (M_rd v)), .int (M_value (M_rd v)), .int (M_fault (M_rd v)), .int (M_faultPlace (M_rd v)), .int (M_lastFault (M_lf v)), .int (M_lastPlace (M_lf v)), .ref (q 15), .ref (q 16), .ref (q 17), .ref (q 18), .int (M_hasImage (M_im v)), .int (M_spanNow (M_rn v)), .ref (q 19), .int (M_placeThen (M_rn v)), .int (M_alonePlace (M_al v)), .int (M_aloneSteps (M_al v)), .int (M_aloneOut (M_al v)), .ref (q 20), .ref (q 21), .ref (q 22), .ref (q 23), .int (M_shotAlarm (M_ex v)), .int (M_drawn (M_ex v))]), ((q 1), aI K 700 (M_tape (M_tp v))), ((q 2), aI K 20 (M_number (M_cd v))), ((q 3), aZ K 5 (M_isTold (M_rd v))), ((q 4), aI K 80 (M_codeSort (M_cd v))), ((q 5), aI K 80 (M_codeA (M_cd v))), ((q 6), aI K 80 (M_codeB (M_cd v))), ((q 7), aI K 80 (M_codeC (M_cd v))), ((q 8), aI K 80 (M_codeName (M_cd v))), ((q 9), aI K 80 (M_codePlace (M_cd v))), ((q 10), aI K 80 (M_codeTo (M_cd v))), ((q 11), aI K 280 (M_labelName (M_cd v))), ((q 12), aI K 280 (M_labelAt (M_cd v))), ((q 13), aI K 64 (M_data (M_cd v))), ((q 14), aZ K 32 (M_hasData (M_rd v))), ((q 15), aI K 314 (M_s (M_rn v))), ((q 16), aI K 314 (M_aside (M_ex v))), ((q 17), aI K 314 (M_further (M_ex v))), ((q 18), aI K 314 (M_image (M_im v))), ((q 19), aI K 3 (M_sizeNow (M_rn v))), ((q 20), aI K 8 (M_aloneRegister (M_al v))), ((q 21), aI K 4 (M_aloneReal (M_al v))), ((q 22), aI K 32 (M_aloneMemory (M_al v))), ((q 23), aI K 999 (M_aloneOutput (M_al v)))]) rfl ?_
  refine r_aload_n (pc := 0) cx dX10_trailerHolds_0 0 rfl ?_
  refine r_get (pc := 1) cx cf_X10 0 26 rfl (by decide) rfl wd_1342 dX10_trailerHolds_1 ?_
  refine r_bipush (pc := 4) cx dX10_trailerHolds_4 bp_113 ?_
  refine r_iald (pc := 6) cx 15 rfl (by decide) dX10_trailerHolds_6 ?_
  obtain ⟨x1, ex1, hf⟩ := nm_of hf
  refine r_nm ex1 ?_
  refine r_istore_n (pc := 7) (loc' := [(3, .int x1), (0, .ref (q 0)), (1, .int a1), (2, .int a2)]) cx dX10_trailerHolds_7 rfl (by decide) rfl ?_
  refine r_aload_n (pc := 8) cx dX10_trailerHolds_8 1 rfl ?_
  refine r_get (pc := 9) cx cf_X10 0 26 rfl (by decide) rfl wd_1342 dX10_trailerHolds_9 ?_
  refine r_sipush (pc := 12) cx dX10_trailerHolds_12 sp_130 ?_
  refine r_iload_n (pc := 15) cx dX10_trailerHolds_15 0 rfl ?_
  refine r_iadd (pc := 16) cx dX10_trailerHolds_16 ?_
  refine r_iload_n (pc := 17) cx dX10_trailerHolds_17 2 rfl ?_
  obtain ⟨h2, hf⟩ := chk_of hf
  obtain ⟨f3, ef3, hf⟩ := nm_of hf
  refine r_iast (pc := 18) (ws' := [((q 0), ob 9 [.int (M_thrown v), .ref (q 1), .int (M_taped (M_tp v)), .ref (q 2), .ref (q 3), .ref (q 4), .ref (q 5), .ref (q 6), .ref (q 7), .ref (q 8), .ref (q 9), .ref (q 10), .ref (q 11), .ref (q 12), .ref (q 13), .ref (q 14), .int (M_lines (M_rd v)), .int (M_size (M_rd v)), .int (M_at (M_rd v)), .int (M_place (M_rd v)), .int (M_sort (M_rd v)), .int (M_value (M_rd v)), .int (M_fault (M_rd v)), .int (M_faultPlace (M_rd v)), .int (M_lastFault (M_lf v)), .int (M_lastPlace (M_lf v)), .ref (q 15), .ref (q 16), .ref (q 17), .ref (q 18), .int (M_hasImage (M_im v)), .int (M_spanNow (M_rn v)), .ref (q 19), .int (M_placeThen (M_rn v)), .int (M_alonePlace (M_al v)), .int (M_aloneSteps (M_al v)), .int (M_aloneOut (M_al v)), .ref (q 20), .ref (q 21), .ref (q 22), .ref (q 23), .int (M_shotAlarm (M_ex v)), .int (M_drawn (M_ex v))]), ((q 1), aI K 700 (M_tape (M_tp v))), ((q 2), aI K 20 (M_number (M_cd v))), ((q 3), aZ K 5 (M_isTold (M_rd v))), ((q 4), aI K 80 (M_codeSort (M_cd v))), ((q 5), aI K 80 (M_codeA (M_cd v))), ((q 6), aI K 80 (M_codeB (M_cd v))), ((q 7), aI K 80 (M_codeC (M_cd v))), ((q 8), aI K 80 (M_codeName (M_cd v))), ((q 9), aI K 80 (M_codePlace (M_cd v))), ((q 10), aI K 80 (M_codeTo (M_cd v))), ((q 11), aI K 280 (M_labelName (M_cd v))), ((q 12), aI K 280 (M_labelAt (M_cd v))), ((q 13), aI K 64 (M_data (M_cd v))), ((q 14), aZ K 32 (M_hasData (M_rd v))), ((q 15), aI K 314 f3), ((q 16), aI K 314 (M_aside (M_ex v))), ((q 17), aI K 314 (M_further (M_ex v))), ((q 18), aI K 314 (M_image (M_im v))), ((q 19), aI K 3 (M_sizeNow (M_rn v))), ((q 20), aI K 8 (M_aloneRegister (M_al v))), ((q 21), aI K 4 (M_aloneReal (M_al v))), ((q 22), aI K 32 (M_aloneMemory (M_al v))), ((q 23), aI K 999 (M_aloneOutput (M_al v)))]) cx 15 rfl h2 dX10_trailerHolds_18 ef3 rfl ?_
  refine r_aload_n (pc := 19) cx dX10_trailerHolds_19 1 rfl ?_
  refine r_get (pc := 20) cx cf_X10 0 26 rfl (by decide) rfl wd_1342 dX10_trailerHolds_20 ?_
  refine r_sipush (pc := 23) cx dX10_trailerHolds_23 sp_138 ?_
  refine r_iload_n (pc := 26) cx dX10_trailerHolds_26 0 rfl ?_
  refine r_iadd (pc := 27) cx dX10_trailerHolds_27 ?_
  refine r_iload_n (pc := 28) cx dX10_trailerHolds_28 3 rfl ?_
  obtain ⟨h4, hf⟩ := chk_of hf
  obtain ⟨f5, ef5, hf⟩ := nm_of hf
  refine r_iast (pc := 29) (ws' := [((q 0), ob 9 [.int (M_thrown v), .ref (q 1), .int (M_taped (M_tp v)), .ref (q 2), .ref (q 3), .ref (q 4), .ref (q 5), .ref (q 6), .ref (q 7), .ref (q 8), .ref (q 9), .ref (q 10), .ref (q 11), .ref (q 12), .ref (q 13), .ref (q 14), .int (M_lines (M_rd v)), .int (M_size (M_rd v)), .int (M_at (M_rd v)), .int (M_place (M_rd v)), .int (M_sort (M_rd v)), .int (M_value (M_rd v)), .int (M_fault (M_rd v)), .int (M_faultPlace (M_rd v)), .int (M_lastFault (M_lf v)), .int (M_lastPlace (M_lf v)), .ref (q 15), .ref (q 16), .ref (q 17), .ref (q 18), .int (M_hasImage (M_im v)), .int (M_spanNow (M_rn v)), .ref (q 19), .int (M_placeThen (M_rn v)), .int (M_alonePlace (M_al v)), .int (M_aloneSteps (M_al v)), .int (M_aloneOut (M_al v)), .ref (q 20), .ref (q 21), .ref (q 22), .ref (q 23), .int (M_shotAlarm (M_ex v)), .int (M_drawn (M_ex v))]), ((q 1), aI K 700 (M_tape (M_tp v))), ((q 2), aI K 20 (M_number (M_cd v))), ((q 3), aZ K 5 (M_isTold (M_rd v))), ((q 4), aI K 80 (M_codeSort (M_cd v))), ((q 5), aI K 80 (M_codeA (M_cd v))), ((q 6), aI K 80 (M_codeB (M_cd v))), ((q 7), aI K 80 (M_codeC (M_cd v))), ((q 8), aI K 80 (M_codeName (M_cd v))), ((q 9), aI K 80 (M_codePlace (M_cd v))), ((q 10), aI K 80 (M_codeTo (M_cd v))), ((q 11), aI K 280 (M_labelName (M_cd v))), ((q 12), aI K 280 (M_labelAt (M_cd v))), ((q 13), aI K 64 (M_data (M_cd v))), ((q 14), aZ K 32 (M_hasData (M_rd v))), ((q 15), aI K 314 f5), ((q 16), aI K 314 (M_aside (M_ex v))), ((q 17), aI K 314 (M_further (M_ex v))), ((q 18), aI K 314 (M_image (M_im v))), ((q 19), aI K 3 (M_sizeNow (M_rn v))), ((q 20), aI K 8 (M_aloneRegister (M_al v))), ((q 21), aI K 4 (M_aloneReal (M_al v))), ((q 22), aI K 32 (M_aloneMemory (M_al v))), ((q 23), aI K 999 (M_aloneOutput (M_al v)))]) cx 15 rfl h4 dX10_trailerHolds_29 ef5 rfl ?_
  refine r_aload_n (pc := 30) cx dX10_trailerHolds_30 1 rfl ?_
  refine r_get (pc := 31) cx cf_X10 0 26 rfl (by decide) rfl wd_1342 dX10_trailerHolds_31 ?_
  refine r_bipush (pc := 34) cx dX10_trailerHolds_34 bp_114 ?_
  refine r_iload_n (pc := 36) cx dX10_trailerHolds_36 0 rfl ?_
  refine r_iadd (pc := 37) cx dX10_trailerHolds_37 ?_
  obtain ⟨h6, hf⟩ := chk_of hf
  refine r_iald (pc := 38) cx 15 rfl h6 dX10_trailerHolds_38 ?_
  refine r_iload_n (pc := 39) cx dX10_trailerHolds_39 2 rfl ?_
  refine r_icmp_ne (pc := 40) (tgt := 56) cx dX10_trailerHolds_40 (by decide) (fun h7 => ?_) (fun h7 => ?_)
  · have hf := ifn h7 hf
    refine r_iconst (pc := 56) cx dX10_trailerHolds_56 ic_3 ?_
    cases hf
    exact r_iret (pc := 57) cx rfl rfl dX10_trailerHolds_57
  · have hf := ifp h7 hf
    refine r_aload_n (pc := 43) cx dX10_trailerHolds_43 1 rfl ?_
    refine r_get (pc := 44) cx cf_X10 0 26 rfl (by decide) rfl wd_1342 dX10_trailerHolds_44 ?_
    refine r_bipush (pc := 47) cx dX10_trailerHolds_47 bp_122 ?_
    refine r_iload_n (pc := 49) cx dX10_trailerHolds_49 0 rfl ?_
    refine r_iadd (pc := 50) cx dX10_trailerHolds_50 ?_
    obtain ⟨h8, hf⟩ := chk_of hf
    refine r_iald (pc := 51) cx 15 rfl h8 dX10_trailerHolds_51 ?_
    refine r_iload_n (pc := 52) cx dX10_trailerHolds_52 3 rfl ?_
    refine r_icmp_eq (pc := 53) (tgt := 58) cx dX10_trailerHolds_53 (by decide) (fun h9 => ?_) (fun h9 => ?_)
    · have hf := ifp h9 hf
      refine r_aload_n (pc := 58) cx dX10_trailerHolds_58 1 rfl ?_
      refine r_get (pc := 59) cx cf_X10 0 26 rfl (by decide) rfl wd_1342 dX10_trailerHolds_59 ?_
      refine r_bipush (pc := 62) cx dX10_trailerHolds_62 bp_113 ?_
      refine r_dup2 (pc := 64) cx dX10_trailerHolds_64 rfl rfl ?_
      refine r_iald (pc := 65) cx 15 rfl (by decide) dX10_trailerHolds_65 ?_
      refine r_iconst (pc := 66) cx dX10_trailerHolds_66 ic_1 ?_
      refine r_iadd (pc := 67) cx dX10_trailerHolds_67 ?_
      obtain ⟨x10, ex10, hf⟩ := nm_of hf
      refine r_nm ex10 ?_
      obtain ⟨f11, ef11, hf⟩ := nm_of hf
      refine r_iast (pc := 68) (ws' := [((q 0), ob 9 [.int (M_thrown v), .ref (q 1), .int (M_taped (M_tp v)), .ref (q 2), .ref (q 3), .ref (q 4), .ref (q 5), .ref (q 6), .ref (q 7), .ref (q 8), .ref (q 9), .ref (q 10), .ref (q 11), .ref (q 12), .ref (q 13), .ref (q 14), .int (M_lines (M_rd v)), .int (M_size (M_rd v)), .int (M_at (M_rd v)), .int (M_place (M_rd v)), .int (M_sort (M_rd v)), .int (M_value (M_rd v)), .int (M_fault (M_rd v)), .int (M_faultPlace (M_rd v)), .int (M_lastFault (M_lf v)), .int (M_lastPlace (M_lf v)), .ref (q 15), .ref (q 16), .ref (q 17), .ref (q 18), .int (M_hasImage (M_im v)), .int (M_spanNow (M_rn v)), .ref (q 19), .int (M_placeThen (M_rn v)), .int (M_alonePlace (M_al v)), .int (M_aloneSteps (M_al v)), .int (M_aloneOut (M_al v)), .ref (q 20), .ref (q 21), .ref (q 22), .ref (q 23), .int (M_shotAlarm (M_ex v)), .int (M_drawn (M_ex v))]), ((q 1), aI K 700 (M_tape (M_tp v))), ((q 2), aI K 20 (M_number (M_cd v))), ((q 3), aZ K 5 (M_isTold (M_rd v))), ((q 4), aI K 80 (M_codeSort (M_cd v))), ((q 5), aI K 80 (M_codeA (M_cd v))), ((q 6), aI K 80 (M_codeB (M_cd v))), ((q 7), aI K 80 (M_codeC (M_cd v))), ((q 8), aI K 80 (M_codeName (M_cd v))), ((q 9), aI K 80 (M_codePlace (M_cd v))), ((q 10), aI K 80 (M_codeTo (M_cd v))), ((q 11), aI K 280 (M_labelName (M_cd v))), ((q 12), aI K 280 (M_labelAt (M_cd v))), ((q 13), aI K 64 (M_data (M_cd v))), ((q 14), aZ K 32 (M_hasData (M_rd v))), ((q 15), aI K 314 f11), ((q 16), aI K 314 (M_aside (M_ex v))), ((q 17), aI K 314 (M_further (M_ex v))), ((q 18), aI K 314 (M_image (M_im v))), ((q 19), aI K 3 (M_sizeNow (M_rn v))), ((q 20), aI K 8 (M_aloneRegister (M_al v))), ((q 21), aI K 4 (M_aloneReal (M_al v))), ((q 22), aI K 32 (M_aloneMemory (M_al v))), ((q 23), aI K 999 (M_aloneOutput (M_al v)))]) cx 15 rfl (by decide) dX10_trailerHolds_68 ef11 rfl ?_
      refine r_iconst (pc := 69) cx dX10_trailerHolds_69 ic_0 ?_
      cases hf
      exact r_iret (pc := 70) cx rfl rfl dX10_trailerHolds_70
    · have hf := ifn h9 hf
      refine r_iconst (pc := 56) cx dX10_trailerHolds_56 ic_3 ?_
      cases hf
      exact r_iret (pc := 57) cx rfl rfl dX10_trailerHolds_57
theorem yv_X10_trailerHolds : YV yX10_trailerHolds cX10_trailerHolds 4 (some .int) 2 := ⟨⟨by decide +kernel, by decide +kernel, by decide +kernel⟩, wd_1626, wd_102, wd_1625, wd_65⟩
def f_M_leaderLoads_L21 (v : T_M) (r1 : Int32) (k21_64 : Int32 → Option (Int32 × T_M)) : Nat → Int32 → Int32 → Option (Int32 × T_M)
  | 0, _, _ => none
  | n21 + 1, x5, x6 =>
    (if ((M_s (M_rn v)) (112 : Int32).toNatClampNeg) ≤ x6 then (k21_64 x5) else (if ix ((114 : Int32) + x6) 314 then (if ((M_s (M_rn v)) (((114 : Int32) + x6)).toNatClampNeg) = r1 then (if ix ((122 : Int32) + x6) 314 then (nm ((M_s (M_rn v)) (((122 : Int32) + x6)).toNatClampNeg) fun (x13 : Int32) => (nm (x6 + (1 : Int32)) fun (x14 : Int32) => (f_M_leaderLoads_L21 v r1 k21_64 n21 x13 x14))) else none) else (nm (x6 + (1 : Int32)) fun (x11 : Int32) => (f_M_leaderLoads_L21 v r1 k21_64 n21 x5 x11))) else none))
def f_M_leaderLoads (v : T_M) (a1 : Int32) : Option (Int32 × T_M) :=
  (bd (f_M_addressOf v (0 : Int32) a1) fun (r1 : Int32) => (if ix ((146 : Int32) + r1) 314 then (nm ((M_s (M_rn v)) (((146 : Int32) + r1)).toNatClampNeg) fun (x4 : Int32) => (f_M_leaderLoads_L21 v r1 (fun (x7 : Int32) => (if ix ((87 : Int32) + ((M_s (M_rn v)) (86 : Int32).toNatClampNeg)) 314 then (nm (upd (M_s (M_rn v)) (((87 : Int32) + ((M_s (M_rn v)) (86 : Int32).toNatClampNeg))).toNatClampNeg r1) fun (f16 : Nat → Int32) => (if ix ((95 : Int32) + (f16 (86 : Int32).toNatClampNeg)) 314 then (nm (upd f16 (((95 : Int32) + (f16 (86 : Int32).toNatClampNeg))).toNatClampNeg x7) fun (f18 : Nat → Int32) => (nm ((f18 (86 : Int32).toNatClampNeg) + (1 : Int32)) fun (x19 : Int32) => (nm (upd f18 (86 : Int32).toNatClampNeg x19) fun (f20 : Nat → Int32) => (if ix a1 80 then (if ix ((4 : Int32) + ((M_codeA (M_cd v)) a1.toNatClampNeg)) 314 then (nm (upd f20 (((4 : Int32) + ((M_codeA (M_cd v)) a1.toNatClampNeg))).toNatClampNeg x7) fun (f23 : Nat → Int32) => (some ((0 : Int32), ((M_tp v), (M_rd v), (M_lf v), (M_cd v), (f23, (M_spanNow (M_rn v)), (M_sizeNow (M_rn v)), (M_placeThen (M_rn v))), (M_ex v), (M_im v), (M_al v), (M_thrown v))))) else none) else none)))) else none)) else none)) LF x4 (0 : Int32))) else none))
abbrev rm_M_leaderLoads : Room := { frames := 1, cells := 0, slots := 0, locals := 22 }
set_option maxRecDepth 100000 in
set_option maxHeartbeats 4000000 in
theorem m_M_leaderLoads (l : Launch) (D : va_G) (K : Nat → ClassId) (q : Nat → Nat) (v : T_M) (a1 : Int32) {r_ : Int32} {o_v : T_M} (hf : f_M_leaderLoads v a1 = some (r_, o_v)) : MI l yX10_leaderLoads cX10_leaderLoads 5 (some .int) rm_M_leaderLoads D K [.ref (q 0), .int a1] (cl_M K q v) r_ (cl_M K q o_v) := by
  refine MI_of (loc0 := [(0, .ref (q 0)), (1, .int a1)]) (by decide +kernel) rfl (Nat.le_of_ble_eq_true rfl) ?_
  intro p e s m args below meth c A cx
  unfold f_M_leaderLoads at hf
  refine r_ws (ws' := [((q 0), ob 9 [.int (M_thrown v), .ref (q 1), .int (M_taped (M_tp v)), .ref (q 2), .ref (q 3), .ref (q 4), .ref (q 5), .ref (q 6), .ref (q 7), .ref (q 8), .ref (q 9), .ref (q 10), .ref (q 11), .ref (q 12), .ref (q 13), .ref (q 14), .int (M_lines (M_rd v)), .int (M_size (M_rd v)), .int (M_at (M_rd v)), .int (M_place (M_rd v)), .int (M_sort (M_rd v)), .int (M_value (M_rd v)), .int (M_fault (M_rd v)), .int (M_faultPlace (M_rd v)), .int (M_lastFault (M_lf v)), .int (M_lastPlace (M_lf v)), .ref (q 15), .ref (q 16), .ref (q 17), .ref (q 18), .int (M_hasImage (M_im v)), .int (M_spanNow (M_rn v)), .ref (q 19), .int (M_placeThen (M_rn v)), .int (M_alonePlace (M_al v)), .int (M_aloneSteps (M_al v)), .int (M_aloneOut (M_al v)), .ref (q 20), .ref (q 21), .ref (q 22), .ref (q 23), .int (M_shotAlarm (M_ex v)), .int (M_drawn (M_ex v))]), ((q 1), aI K 700 (M_tape (M_tp v))), ((q 2), aI K 20 (M_number (M_cd v))), ((q 3), aZ K 5 (M_isTold (M_rd v))), ((q 4), aI K 80 (M_codeSort (M_cd v))), ((q 5), aI K 80 (M_codeA (M_cd v))), ((q 6), aI K 80 (M_codeB (M_cd v))), ((q 7), aI K 80 (M_codeC (M_cd v))), ((q 8), aI K 80 (M_codeName (M_cd v))), ((q 9), aI K 80 (M_codePlace (M_cd v))), ((q 10), aI K 80 (M_codeTo (M_cd v))), ((q 11), aI K 280 (M_labelName (M_cd v))), ((q 12), aI K 280 (M_labelAt (M_cd v))), ((q 13), aI K 64 (M_data (M_cd v))), ((q 14), aZ K 32 (M_hasData (M_rd v))), ((q 15), aI K 314 (M_s (M_rn v))), ((q 16), aI K 314 (M_aside (M_ex v))), ((q 17), aI K 314 (M_further (M_ex v))), ((q 18), aI K 314 (M_image (M_im v))), ((q 19), aI K 3 (M_sizeNow (M_rn v))), ((q 20), aI K 8 (M_aloneRegister (M_al v))), ((q 21), aI K 4 (M_aloneReal (M_al v))), ((q 22), aI K 32 (M_aloneMemory (M_al v))), ((q 23), aI K 999 (M_aloneOutput (M_al v)))]) rfl ?_
  refine r_aload_n (pc := 0) cx dX10_leaderLoads_0 0 rfl ?_
  refine r_iconst (pc := 1) cx dX10_leaderLoads_1 ic_0 ?_
  refine r_iload_n (pc := 2) cx dX10_leaderLoads_2 1 rfl ?_
  obtain ⟨r1, hc2, hf⟩ := bd_of hf
  refine r_Vi (pc := 3) (ws' := [((q 0), ob 9 [.int (M_thrown v), .ref (q 1), .int (M_taped (M_tp v)), .ref (q 2), .ref (q 3), .ref (q 4), .ref (q 5), .ref (q 6), .ref (q 7), .ref (q 8), .ref (q 9), .ref (q 10), .ref (q 11), .ref (q 12), .ref (q 13), .ref (q 14), .int (M_lines (M_rd v)), .int (M_size (M_rd v)), .int (M_at (M_rd v)), .int (M_place (M_rd v)), .int (M_sort (M_rd v)), .int (M_value (M_rd v)), .int (M_fault (M_rd v)), .int (M_faultPlace (M_rd v)), .int (M_lastFault (M_lf v)), .int (M_lastPlace (M_lf v)), .ref (q 15), .ref (q 16), .ref (q 17), .ref (q 18), .int (M_hasImage (M_im v)), .int (M_spanNow (M_rn v)), .ref (q 19), .int (M_placeThen (M_rn v)), .int (M_alonePlace (M_al v)), .int (M_aloneSteps (M_al v)), .int (M_aloneOut (M_al v)), .ref (q 20), .ref (q 21), .ref (q 22), .ref (q 23), .int (M_shotAlarm (M_ex v)), .int (M_drawn (M_ex v))]), ((q 1), aI K 700 (M_tape (M_tp v))), ((q 2), aI K 20 (M_number (M_cd v))), ((q 3), aZ K 5 (M_isTold (M_rd v))), ((q 4), aI K 80 (M_codeSort (M_cd v))), ((q 5), aI K 80 (M_codeA (M_cd v))), ((q 6), aI K 80 (M_codeB (M_cd v))), ((q 7), aI K 80 (M_codeC (M_cd v))), ((q 8), aI K 80 (M_codeName (M_cd v))), ((q 9), aI K 80 (M_codePlace (M_cd v))), ((q 10), aI K 80 (M_codeTo (M_cd v))), ((q 11), aI K 280 (M_labelName (M_cd v))), ((q 12), aI K 280 (M_labelAt (M_cd v))), ((q 13), aI K 64 (M_data (M_cd v))), ((q 14), aZ K 32 (M_hasData (M_rd v))), ((q 15), aI K 314 (M_s (M_rn v))), ((q 16), aI K 314 (M_aside (M_ex v))), ((q 17), aI K 314 (M_further (M_ex v))), ((q 18), aI K 314 (M_image (M_im v))), ((q 19), aI K 3 (M_sizeNow (M_rn v))), ((q 20), aI K 8 (M_aloneRegister (M_al v))), ((q 21), aI K 4 (M_aloneReal (M_al v))), ((q 22), aI K 32 (M_aloneMemory (M_al v))), ((q 23), aI K 999 (M_aloneOutput (M_al v)))]) (nn := 24) cx [.int (0 : Int32), .int a1] [] (m_M_addressOf l D K q v (0 : Int32) a1 hc2) yv_X10_addressOf wd_1611 ⟨rfl, rfl⟩ (by decide) (fr_s (j := 0) rfl rfl rfl (fr_s (j := 1) rfl rfl rfl (fr_s (j := 2) rfl rfl rfl (fr_s (j := 3) rfl rfl rfl (fr_s (j := 4) rfl rfl rfl (fr_s (j := 5) rfl rfl rfl (fr_s (j := 6) rfl rfl rfl (fr_s (j := 7) rfl rfl rfl (fr_s (j := 8) rfl rfl rfl (fr_s (j := 9) rfl rfl rfl (fr_s (j := 10) rfl rfl rfl (fr_s (j := 11) rfl rfl rfl (fr_s (j := 12) rfl rfl rfl (fr_s (j := 13) rfl rfl rfl (fr_s (j := 14) rfl rfl rfl (fr_s (j := 15) rfl rfl rfl (fr_s (j := 16) rfl rfl rfl (fr_s (j := 17) rfl rfl rfl (fr_s (j := 18) rfl rfl rfl (fr_s (j := 19) rfl rfl rfl (fr_s (j := 20) rfl rfl rfl (fr_s (j := 21) rfl rfl rfl (fr_s (j := 22) rfl rfl rfl (fr_s (j := 23) rfl rfl rfl (fr_n))))))))))))))))))))))))) rfl (by decide) 0 rfl rfl rfl (Nat.le_of_ble_eq_true rfl) dX10_leaderLoads_3 ?_
  refine r_istore_n (pc := 6) (loc' := [(2, .int r1), (0, .ref (q 0)), (1, .int a1)]) cx dX10_leaderLoads_6 rfl (by decide) rfl ?_
  refine r_aload_n (pc := 7) cx dX10_leaderLoads_7 1 rfl ?_
  refine r_get (pc := 8) cx cf_X10 0 26 rfl (by decide) rfl wd_1342 dX10_leaderLoads_8 ?_
  refine r_sipush (pc := 11) cx dX10_leaderLoads_11 sp_146 ?_
  refine r_iload_n (pc := 14) cx dX10_leaderLoads_14 0 rfl ?_
  refine r_iadd (pc := 15) cx dX10_leaderLoads_15 ?_
  obtain ⟨h3, hf⟩ := chk_of hf
  refine r_iald (pc := 16) cx 15 rfl h3 dX10_leaderLoads_16 ?_
  obtain ⟨x4, ex4, hf⟩ := nm_of hf
  refine r_nm ex4 ?_
  refine r_istore_n (pc := 17) (loc' := [(3, .int x4), (2, .int r1), (0, .ref (q 0)), (1, .int a1)]) cx dX10_leaderLoads_17 rfl (by decide) rfl ?_
  refine r_iconst (pc := 18) cx dX10_leaderLoads_18 ic_0 ?_
  refine r_istore (pc := 19) (loc' := [(4, .int (0 : Int32)), (3, .int x4), (2, .int r1), (0, .ref (q 0)), (1, .int a1)]) cx dX10_leaderLoads_19 (by decide) rfl ?_
  have hL21 : ∀ (k21_64 : Int32 → Option (Int32 × T_M)), (∀ (x7 : Int32), k21_64 x7 = some (r_, o_v) → WW p l e rm_M_leaderLoads s m args below meth c D A 5 0 0 (MQ below (QI D K A r_ (cl_M K q o_v)) args s 0 0 A) ([((q 0), ob 9 [.int (M_thrown v), .ref (q 1), .int (M_taped (M_tp v)), .ref (q 2), .ref (q 3), .ref (q 4), .ref (q 5), .ref (q 6), .ref (q 7), .ref (q 8), .ref (q 9), .ref (q 10), .ref (q 11), .ref (q 12), .ref (q 13), .ref (q 14), .int (M_lines (M_rd v)), .int (M_size (M_rd v)), .int (M_at (M_rd v)), .int (M_place (M_rd v)), .int (M_sort (M_rd v)), .int (M_value (M_rd v)), .int (M_fault (M_rd v)), .int (M_faultPlace (M_rd v)), .int (M_lastFault (M_lf v)), .int (M_lastPlace (M_lf v)), .ref (q 15), .ref (q 16), .ref (q 17), .ref (q 18), .int (M_hasImage (M_im v)), .int (M_spanNow (M_rn v)), .ref (q 19), .int (M_placeThen (M_rn v)), .int (M_alonePlace (M_al v)), .int (M_aloneSteps (M_al v)), .int (M_aloneOut (M_al v)), .ref (q 20), .ref (q 21), .ref (q 22), .ref (q 23), .int (M_shotAlarm (M_ex v)), .int (M_drawn (M_ex v))]), ((q 1), aI K 700 (M_tape (M_tp v))), ((q 2), aI K 20 (M_number (M_cd v))), ((q 3), aZ K 5 (M_isTold (M_rd v))), ((q 4), aI K 80 (M_codeSort (M_cd v))), ((q 5), aI K 80 (M_codeA (M_cd v))), ((q 6), aI K 80 (M_codeB (M_cd v))), ((q 7), aI K 80 (M_codeC (M_cd v))), ((q 8), aI K 80 (M_codeName (M_cd v))), ((q 9), aI K 80 (M_codePlace (M_cd v))), ((q 10), aI K 80 (M_codeTo (M_cd v))), ((q 11), aI K 280 (M_labelName (M_cd v))), ((q 12), aI K 280 (M_labelAt (M_cd v))), ((q 13), aI K 64 (M_data (M_cd v))), ((q 14), aZ K 32 (M_hasData (M_rd v))), ((q 15), aI K 314 (M_s (M_rn v))), ((q 16), aI K 314 (M_aside (M_ex v))), ((q 17), aI K 314 (M_further (M_ex v))), ((q 18), aI K 314 (M_image (M_im v))), ((q 19), aI K 3 (M_sizeNow (M_rn v))), ((q 20), aI K 8 (M_aloneRegister (M_al v))), ((q 21), aI K 4 (M_aloneReal (M_al v))), ((q 22), aI K 32 (M_aloneMemory (M_al v))), ((q 23), aI K 999 (M_aloneOutput (M_al v)))]) ([(0, .ref (q 0)), (1, .int a1), (2, .int r1), (3, .int x7)]) ([]) 64) → ∀ (n21 : Nat) (x5 : Int32) (x6 : Int32), f_M_leaderLoads_L21 v r1 k21_64 n21 x5 x6 = some (r_, o_v) → WW p l e rm_M_leaderLoads s m args below meth c D A 5 0 0 (MQ below (QI D K A r_ (cl_M K q o_v)) args s 0 0 A) ([((q 0), ob 9 [.int (M_thrown v), .ref (q 1), .int (M_taped (M_tp v)), .ref (q 2), .ref (q 3), .ref (q 4), .ref (q 5), .ref (q 6), .ref (q 7), .ref (q 8), .ref (q 9), .ref (q 10), .ref (q 11), .ref (q 12), .ref (q 13), .ref (q 14), .int (M_lines (M_rd v)), .int (M_size (M_rd v)), .int (M_at (M_rd v)), .int (M_place (M_rd v)), .int (M_sort (M_rd v)), .int (M_value (M_rd v)), .int (M_fault (M_rd v)), .int (M_faultPlace (M_rd v)), .int (M_lastFault (M_lf v)), .int (M_lastPlace (M_lf v)), .ref (q 15), .ref (q 16), .ref (q 17), .ref (q 18), .int (M_hasImage (M_im v)), .int (M_spanNow (M_rn v)), .ref (q 19), .int (M_placeThen (M_rn v)), .int (M_alonePlace (M_al v)), .int (M_aloneSteps (M_al v)), .int (M_aloneOut (M_al v)), .ref (q 20), .ref (q 21), .ref (q 22), .ref (q 23), .int (M_shotAlarm (M_ex v)), .int (M_drawn (M_ex v))]), ((q 1), aI K 700 (M_tape (M_tp v))), ((q 2), aI K 20 (M_number (M_cd v))), ((q 3), aZ K 5 (M_isTold (M_rd v))), ((q 4), aI K 80 (M_codeSort (M_cd v))), ((q 5), aI K 80 (M_codeA (M_cd v))), ((q 6), aI K 80 (M_codeB (M_cd v))), ((q 7), aI K 80 (M_codeC (M_cd v))), ((q 8), aI K 80 (M_codeName (M_cd v))), ((q 9), aI K 80 (M_codePlace (M_cd v))), ((q 10), aI K 80 (M_codeTo (M_cd v))), ((q 11), aI K 280 (M_labelName (M_cd v))), ((q 12), aI K 280 (M_labelAt (M_cd v))), ((q 13), aI K 64 (M_data (M_cd v))), ((q 14), aZ K 32 (M_hasData (M_rd v))), ((q 15), aI K 314 (M_s (M_rn v))), ((q 16), aI K 314 (M_aside (M_ex v))), ((q 17), aI K 314 (M_further (M_ex v))), ((q 18), aI K 314 (M_image (M_im v))), ((q 19), aI K 3 (M_sizeNow (M_rn v))), ((q 20), aI K 8 (M_aloneRegister (M_al v))), ((q 21), aI K 4 (M_aloneReal (M_al v))), ((q 22), aI K 32 (M_aloneMemory (M_al v))), ((q 23), aI K 999 (M_aloneOutput (M_al v)))]) ([(0, .ref (q 0)), (1, .int a1), (2, .int r1), (3, .int x5), (4, .int x6)]) ([]) 21 := by
    intro k21_64 hk21_64 n21
    induction n21 with
    | zero => intro x5 x6 hf; exact (nomatch (show (none : Option (Int32 × T_M)) = some _ from hf))
    | succ n21 ih21 =>
      intro x5 x6 hf
      rw [f_M_leaderLoads_L21] at hf
      refine r_iload (pc := 21) cx dX10_leaderLoads_21 4 rfl ?_
      refine r_aload_n (pc := 23) cx dX10_leaderLoads_23 0 rfl ?_
      refine r_get (pc := 24) cx cf_X10 0 26 rfl (by decide) rfl wd_1342 dX10_leaderLoads_24 ?_
      refine r_bipush (pc := 27) cx dX10_leaderLoads_27 bp_112 ?_
      refine r_iald (pc := 29) cx 15 rfl (by decide) dX10_leaderLoads_29 ?_
      refine r_icmp_ge (pc := 30) (tgt := 64) cx dX10_leaderLoads_30 (by decide) (fun h8 => ?_) (fun h8 => ?_)
      · have hf := ifp h8 hf
        refine r_loc (loc' := [(0, .ref (q 0)), (1, .int a1), (2, .int r1), (3, .int x5)]) [0, 1, 2, 3] rfl ?_
        exact hk21_64 _ hf
      · have hf := ifn h8 hf
        refine r_aload_n (pc := 33) cx dX10_leaderLoads_33 0 rfl ?_
        refine r_get (pc := 34) cx cf_X10 0 26 rfl (by decide) rfl wd_1342 dX10_leaderLoads_34 ?_
        refine r_bipush (pc := 37) cx dX10_leaderLoads_37 bp_114 ?_
        refine r_iload (pc := 39) cx dX10_leaderLoads_39 4 rfl ?_
        refine r_iadd (pc := 41) cx dX10_leaderLoads_41 ?_
        obtain ⟨h9, hf⟩ := chk_of hf
        refine r_iald (pc := 42) cx 15 rfl h9 dX10_leaderLoads_42 ?_
        refine r_iload_n (pc := 43) cx dX10_leaderLoads_43 2 rfl ?_
        refine r_icmp_ne (pc := 44) (tgt := 58) cx dX10_leaderLoads_44 (by decide) (fun h10 => ?_) (fun h10 => ?_)
        · have hf := ifn h10 hf
          obtain ⟨x11, ex11, hf⟩ := nm_of hf
          refine r_iinc (pc := 58) (loc' := [(4, .int x11), (0, .ref (q 0)), (1, .int a1), (2, .int r1), (3, .int x5)]) (v := x11) cx dX10_leaderLoads_58 4 rfl ((congrArg (fun z => x6 + z) ic_1).trans ex11.symm) (by decide) rfl ?_
          refine r_goto (pc := 61) (tgt := 21) cx dX10_leaderLoads_61 (by decide) ?_
          refine r_loc (loc' := [(0, .ref (q 0)), (1, .int a1), (2, .int r1), (3, .int x5), (4, .int x11)]) [1, 2, 3, 4, 0] rfl ?_
          exact ih21 _ _ hf
        · have hf := ifp h10 hf
          refine r_aload_n (pc := 47) cx dX10_leaderLoads_47 0 rfl ?_
          refine r_get (pc := 48) cx cf_X10 0 26 rfl (by decide) rfl wd_1342 dX10_leaderLoads_48 ?_
          refine r_bipush (pc := 51) cx dX10_leaderLoads_51 bp_122 ?_
          refine r_iload (pc := 53) cx dX10_leaderLoads_53 4 rfl ?_
          refine r_iadd (pc := 55) cx dX10_leaderLoads_55 ?_
          obtain ⟨h12, hf⟩ := chk_of hf
          refine r_iald (pc := 56) cx 15 rfl h12 dX10_leaderLoads_56 ?_
          obtain ⟨x13, ex13, hf⟩ := nm_of hf
          refine r_nm ex13 ?_
          refine r_istore_n (pc := 57) (loc' := [(3, .int x13), (0, .ref (q 0)), (1, .int a1), (2, .int r1), (4, .int x6)]) cx dX10_leaderLoads_57 rfl (by decide) rfl ?_
          obtain ⟨x14, ex14, hf⟩ := nm_of hf
          refine r_iinc (pc := 58) (loc' := [(4, .int x14), (3, .int x13), (0, .ref (q 0)), (1, .int a1), (2, .int r1)]) (v := x14) cx dX10_leaderLoads_58 4 rfl ((congrArg (fun z => x6 + z) ic_1).trans ex14.symm) (by decide) rfl ?_
          refine r_goto (pc := 61) (tgt := 21) cx dX10_leaderLoads_61 (by decide) ?_
          refine r_loc (loc' := [(0, .ref (q 0)), (1, .int a1), (2, .int r1), (3, .int x13), (4, .int x14)]) [2, 3, 4, 1, 0] rfl ?_
          exact ih21 _ _ hf
  refine r_loc (loc' := [(0, .ref (q 0)), (1, .int a1), (2, .int r1), (3, .int x4), (4, .int (0 : Int32))]) [3, 4, 2, 1, 0] rfl ?_
  refine hL21 _ (fun x7 hf => ?_) _ _ _ hf
  refine r_aload_n (pc := 64) cx dX10_leaderLoads_64 0 rfl ?_
  refine r_get (pc := 65) cx cf_X10 0 26 rfl (by decide) rfl wd_1342 dX10_leaderLoads_65 ?_
  refine r_bipush (pc := 68) cx dX10_leaderLoads_68 bp_87 ?_
  refine r_aload_n (pc := 70) cx dX10_leaderLoads_70 0 rfl ?_
  refine r_get (pc := 71) cx cf_X10 0 26 rfl (by decide) rfl wd_1342 dX10_leaderLoads_71 ?_
  refine r_bipush (pc := 74) cx dX10_leaderLoads_74 bp_86 ?_
  refine r_iald (pc := 76) cx 15 rfl (by decide) dX10_leaderLoads_76 ?_
  refine r_iadd (pc := 77) cx dX10_leaderLoads_77 ?_
  refine r_iload_n (pc := 78) cx dX10_leaderLoads_78 2 rfl ?_
  obtain ⟨h15, hf⟩ := chk_of hf
  obtain ⟨f16, ef16, hf⟩ := nm_of hf
  refine r_iast (pc := 79) (ws' := [((q 0), ob 9 [.int (M_thrown v), .ref (q 1), .int (M_taped (M_tp v)), .ref (q 2), .ref (q 3), .ref (q 4), .ref (q 5), .ref (q 6), .ref (q 7), .ref (q 8), .ref (q 9), .ref (q 10), .ref (q 11), .ref (q 12), .ref (q 13), .ref (q 14), .int (M_lines (M_rd v)), .int (M_size (M_rd v)), .int (M_at (M_rd v)), .int (M_place (M_rd v)), .int (M_sort (M_rd v)), .int (M_value (M_rd v)), .int (M_fault (M_rd v)), .int (M_faultPlace (M_rd v)), .int (M_lastFault (M_lf v)), .int (M_lastPlace (M_lf v)), .ref (q 15), .ref (q 16), .ref (q 17), .ref (q 18), .int (M_hasImage (M_im v)), .int (M_spanNow (M_rn v)), .ref (q 19), .int (M_placeThen (M_rn v)), .int (M_alonePlace (M_al v)), .int (M_aloneSteps (M_al v)), .int (M_aloneOut (M_al v)), .ref (q 20), .ref (q 21), .ref (q 22), .ref (q 23), .int (M_shotAlarm (M_ex v)), .int (M_drawn (M_ex v))]), ((q 1), aI K 700 (M_tape (M_tp v))), ((q 2), aI K 20 (M_number (M_cd v))), ((q 3), aZ K 5 (M_isTold (M_rd v))), ((q 4), aI K 80 (M_codeSort (M_cd v))), ((q 5), aI K 80 (M_codeA (M_cd v))), ((q 6), aI K 80 (M_codeB (M_cd v))), ((q 7), aI K 80 (M_codeC (M_cd v))), ((q 8), aI K 80 (M_codeName (M_cd v))), ((q 9), aI K 80 (M_codePlace (M_cd v))), ((q 10), aI K 80 (M_codeTo (M_cd v))), ((q 11), aI K 280 (M_labelName (M_cd v))), ((q 12), aI K 280 (M_labelAt (M_cd v))), ((q 13), aI K 64 (M_data (M_cd v))), ((q 14), aZ K 32 (M_hasData (M_rd v))), ((q 15), aI K 314 f16), ((q 16), aI K 314 (M_aside (M_ex v))), ((q 17), aI K 314 (M_further (M_ex v))), ((q 18), aI K 314 (M_image (M_im v))), ((q 19), aI K 3 (M_sizeNow (M_rn v))), ((q 20), aI K 8 (M_aloneRegister (M_al v))), ((q 21), aI K 4 (M_aloneReal (M_al v))), ((q 22), aI K 32 (M_aloneMemory (M_al v))), ((q 23), aI K 999 (M_aloneOutput (M_al v)))]) cx 15 rfl h15 dX10_leaderLoads_79 ef16 rfl ?_
  refine r_aload_n (pc := 80) cx dX10_leaderLoads_80 0 rfl ?_
  refine r_get (pc := 81) cx cf_X10 0 26 rfl (by decide) rfl wd_1342 dX10_leaderLoads_81 ?_
  refine r_bipush (pc := 84) cx dX10_leaderLoads_84 bp_95 ?_
  refine r_aload_n (pc := 86) cx dX10_leaderLoads_86 0 rfl ?_
  refine r_get (pc := 87) cx cf_X10 0 26 rfl (by decide) rfl wd_1342 dX10_leaderLoads_87 ?_
  refine r_bipush (pc := 90) cx dX10_leaderLoads_90 bp_86 ?_
  refine r_iald (pc := 92) cx 15 rfl (by decide) dX10_leaderLoads_92 ?_
  refine r_iadd (pc := 93) cx dX10_leaderLoads_93 ?_
  refine r_iload_n (pc := 94) cx dX10_leaderLoads_94 3 rfl ?_
  obtain ⟨h17, hf⟩ := chk_of hf
  obtain ⟨f18, ef18, hf⟩ := nm_of hf
  refine r_iast (pc := 95) (ws' := [((q 0), ob 9 [.int (M_thrown v), .ref (q 1), .int (M_taped (M_tp v)), .ref (q 2), .ref (q 3), .ref (q 4), .ref (q 5), .ref (q 6), .ref (q 7), .ref (q 8), .ref (q 9), .ref (q 10), .ref (q 11), .ref (q 12), .ref (q 13), .ref (q 14), .int (M_lines (M_rd v)), .int (M_size (M_rd v)), .int (M_at (M_rd v)), .int (M_place (M_rd v)), .int (M_sort (M_rd v)), .int (M_value (M_rd v)), .int (M_fault (M_rd v)), .int (M_faultPlace (M_rd v)), .int (M_lastFault (M_lf v)), .int (M_lastPlace (M_lf v)), .ref (q 15), .ref (q 16), .ref (q 17), .ref (q 18), .int (M_hasImage (M_im v)), .int (M_spanNow (M_rn v)), .ref (q 19), .int (M_placeThen (M_rn v)), .int (M_alonePlace (M_al v)), .int (M_aloneSteps (M_al v)), .int (M_aloneOut (M_al v)), .ref (q 20), .ref (q 21), .ref (q 22), .ref (q 23), .int (M_shotAlarm (M_ex v)), .int (M_drawn (M_ex v))]), ((q 1), aI K 700 (M_tape (M_tp v))), ((q 2), aI K 20 (M_number (M_cd v))), ((q 3), aZ K 5 (M_isTold (M_rd v))), ((q 4), aI K 80 (M_codeSort (M_cd v))), ((q 5), aI K 80 (M_codeA (M_cd v))), ((q 6), aI K 80 (M_codeB (M_cd v))), ((q 7), aI K 80 (M_codeC (M_cd v))), ((q 8), aI K 80 (M_codeName (M_cd v))), ((q 9), aI K 80 (M_codePlace (M_cd v))), ((q 10), aI K 80 (M_codeTo (M_cd v))), ((q 11), aI K 280 (M_labelName (M_cd v))), ((q 12), aI K 280 (M_labelAt (M_cd v))), ((q 13), aI K 64 (M_data (M_cd v))), ((q 14), aZ K 32 (M_hasData (M_rd v))), ((q 15), aI K 314 f18), ((q 16), aI K 314 (M_aside (M_ex v))), ((q 17), aI K 314 (M_further (M_ex v))), ((q 18), aI K 314 (M_image (M_im v))), ((q 19), aI K 3 (M_sizeNow (M_rn v))), ((q 20), aI K 8 (M_aloneRegister (M_al v))), ((q 21), aI K 4 (M_aloneReal (M_al v))), ((q 22), aI K 32 (M_aloneMemory (M_al v))), ((q 23), aI K 999 (M_aloneOutput (M_al v)))]) cx 15 rfl h17 dX10_leaderLoads_95 ef18 rfl ?_
  refine r_aload_n (pc := 96) cx dX10_leaderLoads_96 0 rfl ?_
  refine r_get (pc := 97) cx cf_X10 0 26 rfl (by decide) rfl wd_1342 dX10_leaderLoads_97 ?_
  refine r_bipush (pc := 100) cx dX10_leaderLoads_100 bp_86 ?_
  refine r_dup2 (pc := 102) cx dX10_leaderLoads_102 rfl rfl ?_
  refine r_iald (pc := 103) cx 15 rfl (by decide) dX10_leaderLoads_103 ?_
  refine r_iconst (pc := 104) cx dX10_leaderLoads_104 ic_1 ?_
  refine r_iadd (pc := 105) cx dX10_leaderLoads_105 ?_
  obtain ⟨x19, ex19, hf⟩ := nm_of hf
  refine r_nm ex19 ?_
  obtain ⟨f20, ef20, hf⟩ := nm_of hf
  refine r_iast (pc := 106) (ws' := [((q 0), ob 9 [.int (M_thrown v), .ref (q 1), .int (M_taped (M_tp v)), .ref (q 2), .ref (q 3), .ref (q 4), .ref (q 5), .ref (q 6), .ref (q 7), .ref (q 8), .ref (q 9), .ref (q 10), .ref (q 11), .ref (q 12), .ref (q 13), .ref (q 14), .int (M_lines (M_rd v)), .int (M_size (M_rd v)), .int (M_at (M_rd v)), .int (M_place (M_rd v)), .int (M_sort (M_rd v)), .int (M_value (M_rd v)), .int (M_fault (M_rd v)), .int (M_faultPlace (M_rd v)), .int (M_lastFault (M_lf v)), .int (M_lastPlace (M_lf v)), .ref (q 15), .ref (q 16), .ref (q 17), .ref (q 18), .int (M_hasImage (M_im v)), .int (M_spanNow (M_rn v)), .ref (q 19), .int (M_placeThen (M_rn v)), .int (M_alonePlace (M_al v)), .int (M_aloneSteps (M_al v)), .int (M_aloneOut (M_al v)), .ref (q 20), .ref (q 21), .ref (q 22), .ref (q 23), .int (M_shotAlarm (M_ex v)), .int (M_drawn (M_ex v))]), ((q 1), aI K 700 (M_tape (M_tp v))), ((q 2), aI K 20 (M_number (M_cd v))), ((q 3), aZ K 5 (M_isTold (M_rd v))), ((q 4), aI K 80 (M_codeSort (M_cd v))), ((q 5), aI K 80 (M_codeA (M_cd v))), ((q 6), aI K 80 (M_codeB (M_cd v))), ((q 7), aI K 80 (M_codeC (M_cd v))), ((q 8), aI K 80 (M_codeName (M_cd v))), ((q 9), aI K 80 (M_codePlace (M_cd v))), ((q 10), aI K 80 (M_codeTo (M_cd v))), ((q 11), aI K 280 (M_labelName (M_cd v))), ((q 12), aI K 280 (M_labelAt (M_cd v))), ((q 13), aI K 64 (M_data (M_cd v))), ((q 14), aZ K 32 (M_hasData (M_rd v))), ((q 15), aI K 314 f20), ((q 16), aI K 314 (M_aside (M_ex v))), ((q 17), aI K 314 (M_further (M_ex v))), ((q 18), aI K 314 (M_image (M_im v))), ((q 19), aI K 3 (M_sizeNow (M_rn v))), ((q 20), aI K 8 (M_aloneRegister (M_al v))), ((q 21), aI K 4 (M_aloneReal (M_al v))), ((q 22), aI K 32 (M_aloneMemory (M_al v))), ((q 23), aI K 999 (M_aloneOutput (M_al v)))]) cx 15 rfl (by decide) dX10_leaderLoads_106 ef20 rfl ?_
  refine r_aload_n (pc := 107) cx dX10_leaderLoads_107 0 rfl ?_
  refine r_get (pc := 108) cx cf_X10 0 26 rfl (by decide) rfl wd_1342 dX10_leaderLoads_108 ?_
  refine r_iconst (pc := 111) cx dX10_leaderLoads_111 ic_4 ?_
  refine r_aload_n (pc := 112) cx dX10_leaderLoads_112 0 rfl ?_
  refine r_get (pc := 113) cx cf_X10 0 6 rfl (by decide) rfl wd_1322 dX10_leaderLoads_113 ?_
  refine r_iload_n (pc := 116) cx dX10_leaderLoads_116 1 rfl ?_
  obtain ⟨h21, hf⟩ := chk_of hf
  refine r_iald (pc := 117) cx 5 rfl h21 dX10_leaderLoads_117 ?_
  refine r_iadd (pc := 118) cx dX10_leaderLoads_118 ?_
  refine r_iload_n (pc := 119) cx dX10_leaderLoads_119 3 rfl ?_
  obtain ⟨h22, hf⟩ := chk_of hf
  obtain ⟨f23, ef23, hf⟩ := nm_of hf
  refine r_iast (pc := 120) (ws' := [((q 0), ob 9 [.int (M_thrown v), .ref (q 1), .int (M_taped (M_tp v)), .ref (q 2), .ref (q 3), .ref (q 4), .ref (q 5), .ref (q 6), .ref (q 7), .ref (q 8), .ref (q 9), .ref (q 10), .ref (q 11), .ref (q 12), .ref (q 13), .ref (q 14), .int (M_lines (M_rd v)), .int (M_size (M_rd v)), .int (M_at (M_rd v)), .int (M_place (M_rd v)), .int (M_sort (M_rd v)), .int (M_value (M_rd v)), .int (M_fault (M_rd v)), .int (M_faultPlace (M_rd v)), .int (M_lastFault (M_lf v)), .int (M_lastPlace (M_lf v)), .ref (q 15), .ref (q 16), .ref (q 17), .ref (q 18), .int (M_hasImage (M_im v)), .int (M_spanNow (M_rn v)), .ref (q 19), .int (M_placeThen (M_rn v)), .int (M_alonePlace (M_al v)), .int (M_aloneSteps (M_al v)), .int (M_aloneOut (M_al v)), .ref (q 20), .ref (q 21), .ref (q 22), .ref (q 23), .int (M_shotAlarm (M_ex v)), .int (M_drawn (M_ex v))]), ((q 1), aI K 700 (M_tape (M_tp v))), ((q 2), aI K 20 (M_number (M_cd v))), ((q 3), aZ K 5 (M_isTold (M_rd v))), ((q 4), aI K 80 (M_codeSort (M_cd v))), ((q 5), aI K 80 (M_codeA (M_cd v))), ((q 6), aI K 80 (M_codeB (M_cd v))), ((q 7), aI K 80 (M_codeC (M_cd v))), ((q 8), aI K 80 (M_codeName (M_cd v))), ((q 9), aI K 80 (M_codePlace (M_cd v))), ((q 10), aI K 80 (M_codeTo (M_cd v))), ((q 11), aI K 280 (M_labelName (M_cd v))), ((q 12), aI K 280 (M_labelAt (M_cd v))), ((q 13), aI K 64 (M_data (M_cd v))), ((q 14), aZ K 32 (M_hasData (M_rd v))), ((q 15), aI K 314 f23), ((q 16), aI K 314 (M_aside (M_ex v))), ((q 17), aI K 314 (M_further (M_ex v))), ((q 18), aI K 314 (M_image (M_im v))), ((q 19), aI K 3 (M_sizeNow (M_rn v))), ((q 20), aI K 8 (M_aloneRegister (M_al v))), ((q 21), aI K 4 (M_aloneReal (M_al v))), ((q 22), aI K 32 (M_aloneMemory (M_al v))), ((q 23), aI K 999 (M_aloneOutput (M_al v)))]) cx 15 rfl h22 dX10_leaderLoads_120 ef23 rfl ?_
  refine r_iconst (pc := 121) cx dX10_leaderLoads_121 ic_0 ?_
  cases hf
  exact r_iret (pc := 122) cx rfl rfl dX10_leaderLoads_122
theorem yv_X10_leaderLoads : YV yX10_leaderLoads cX10_leaderLoads 5 (some .int) 1 := ⟨⟨by decide +kernel, by decide +kernel, by decide +kernel⟩, wd_1610, wd_102, wd_1609, wd_61⟩
def f_M_trailerLoads_L19  (k19_76 : (Nat → Int32) → Option (Int32 × T_M)) : Nat → Int32 → (Nat → Int32) → Option (Int32 × T_M)
  | 0, _, _ => none
  | n19 + 1, x3, f4 =>
    (if (8 : Int32) ≤ x3 then (k19_76 f4) else (if ix ((87 : Int32) + x3) 314 then (nm (f4 (((87 : Int32) + x3)).toNatClampNeg) fun (x8 : Int32) => (if ix (((87 : Int32) + x3) - (1 : Int32)) 314 then (nm (upd f4 ((((87 : Int32) + x3) - (1 : Int32))).toNatClampNeg x8) fun (f10 : Nat → Int32) => (if ix ((95 : Int32) + x3) 314 then (nm (f10 (((95 : Int32) + x3)).toNatClampNeg) fun (x12 : Int32) => (if ix (((95 : Int32) + x3) - (1 : Int32)) 314 then (nm (upd f10 ((((95 : Int32) + x3) - (1 : Int32))).toNatClampNeg x12) fun (f14 : Nat → Int32) => (nm (x3 + (1 : Int32)) fun (x15 : Int32) => (f_M_trailerLoads_L19 k19_76 n19 x15 f14))) else none)) else none)) else none)) else none))
def f_M_trailerLoads (v : T_M) (a1 : Int32) : Option (Int32 × T_M) :=
  (nm ((M_s (M_rn v)) (87 : Int32).toNatClampNeg) fun (x1 : Int32) => (nm ((M_s (M_rn v)) (95 : Int32).toNatClampNeg) fun (x2 : Int32) => (f_M_trailerLoads_L19 (fun (f5 : (Nat → Int32)) => (nm ((f5 (86 : Int32).toNatClampNeg) - (1 : Int32)) fun (x16 : Int32) => (nm (upd f5 (86 : Int32).toNatClampNeg x16) fun (f17 : Nat → Int32) => (bd (f_M_addressOf ((M_tp v), (M_rd v), (M_lf v), (M_cd v), (f17, (M_spanNow (M_rn v)), (M_sizeNow (M_rn v)), (M_placeThen (M_rn v))), (M_ex v), (M_im v), (M_al v), (M_thrown v)) (1 : Int32) a1) fun (r18 : Int32) => (if x1 = r18 then (if ix a1 80 then (if ix ((12 : Int32) + ((M_codeA (M_cd v)) a1.toNatClampNeg)) 314 then (nm (upd f17 (((12 : Int32) + ((M_codeA (M_cd v)) a1.toNatClampNeg))).toNatClampNeg x2) fun (f23 : Nat → Int32) => (some ((0 : Int32), ((M_tp v), (M_rd v), (M_lf v), (M_cd v), (f23, (M_spanNow (M_rn v)), (M_sizeNow (M_rn v)), (M_placeThen (M_rn v))), (M_ex v), (M_im v), (M_al v), (M_thrown v))))) else none) else none) else (some ((1 : Int32), ((M_tp v), (M_rd v), (M_lf v), (M_cd v), (f17, (M_spanNow (M_rn v)), (M_sizeNow (M_rn v)), (M_placeThen (M_rn v))), (M_ex v), (M_im v), (M_al v), (M_thrown v))))))))) LF (1 : Int32) (M_s (M_rn v)))))
abbrev rm_M_trailerLoads : Room := { frames := 1, cells := 0, slots := 0, locals := 22 }
set_option maxRecDepth 100000 in
set_option maxHeartbeats 4000000 in
theorem m_M_trailerLoads (l : Launch) (D : va_G) (K : Nat → ClassId) (q : Nat → Nat) (v : T_M) (a1 : Int32) {r_ : Int32} {o_v : T_M} (hf : f_M_trailerLoads v a1 = some (r_, o_v)) : MI l yX10_trailerLoads cX10_trailerLoads 5 (some .int) rm_M_trailerLoads D K [.ref (q 0), .int a1] (cl_M K q v) r_ (cl_M K q o_v) := by
  refine MI_of (loc0 := [(0, .ref (q 0)), (1, .int a1)]) (by decide +kernel) rfl (Nat.le_of_ble_eq_true rfl) ?_
  intro p e s m args below meth c A cx
  unfold f_M_trailerLoads at hf
  refine r_ws (ws' := [((q 0), ob 9 [.int (M_thrown v), .ref (q 1), .int (M_taped (M_tp v)), .ref (q 2), .ref (q 3), .ref (q 4), .ref (q 5), .ref (q 6), .ref (q 7), .ref (q 8), .ref (q 9), .ref (q 10), .ref (q 11), .ref (q 12), .ref (q 13), .ref (q 14), .int (M_lines (M_rd v)), .int (M_size (M_rd v)), .int (M_at (M_rd v)), .int (M_place (M_rd v)), .int (M_sort (M_rd v)), .int (M_value (M_rd v)), .int (M_fault (M_rd v)), .int (M_faultPlace (M_rd v)), .int (M_lastFault (M_lf v)), .int (M_lastPlace (M_lf v)), .ref (q 15), .ref (q 16), .ref (q 17), .ref (q 18), .int (M_hasImage (M_im v)), .int (M_spanNow (M_rn v)), .ref (q 19), .int (M_placeThen (M_rn v)), .int (M_alonePlace (M_al v)), .int (M_aloneSteps (M_al v)), .int (M_aloneOut (M_al v)), .ref (q 20), .ref (q 21), .ref (q 22), .ref (q 23), .int (M_shotAlarm (M_ex v)), .int (M_drawn (M_ex v))]), ((q 1), aI K 700 (M_tape (M_tp v))), ((q 2), aI K 20 (M_number (M_cd v))), ((q 3), aZ K 5 (M_isTold (M_rd v))), ((q 4), aI K 80 (M_codeSort (M_cd v))), ((q 5), aI K 80 (M_codeA (M_cd v))), ((q 6), aI K 80 (M_codeB (M_cd v))), ((q 7), aI K 80 (M_codeC (M_cd v))), ((q 8), aI K 80 (M_codeName (M_cd v))), ((q 9), aI K 80 (M_codePlace (M_cd v))), ((q 10), aI K 80 (M_codeTo (M_cd v))), ((q 11), aI K 280 (M_labelName (M_cd v))), ((q 12), aI K 280 (M_labelAt (M_cd v))), ((q 13), aI K 64 (M_data (M_cd v))), ((q 14), aZ K 32 (M_hasData (M_rd v))), ((q 15), aI K 314 (M_s (M_rn v))), ((q 16), aI K 314 (M_aside (M_ex v))), ((q 17), aI K 314 (M_further (M_ex v))), ((q 18), aI K 314 (M_image (M_im v))), ((q 19), aI K 3 (M_sizeNow (M_rn v))), ((q 20), aI K 8 (M_aloneRegister (M_al v))), ((q 21), aI K 4 (M_aloneReal (M_al v))), ((q 22), aI K 32 (M_aloneMemory (M_al v))), ((q 23), aI K 999 (M_aloneOutput (M_al v)))]) rfl ?_
  refine r_aload_n (pc := 0) cx dX10_trailerLoads_0 0 rfl ?_
  refine r_get (pc := 1) cx cf_X10 0 26 rfl (by decide) rfl wd_1342 dX10_trailerLoads_1 ?_
  refine r_bipush (pc := 4) cx dX10_trailerLoads_4 bp_87 ?_
  refine r_iald (pc := 6) cx 15 rfl (by decide) dX10_trailerLoads_6 ?_
  obtain ⟨x1, ex1, hf⟩ := nm_of hf
  refine r_nm ex1 ?_
  refine r_istore_n (pc := 7) (loc' := [(2, .int x1), (0, .ref (q 0)), (1, .int a1)]) cx dX10_trailerLoads_7 rfl (by decide) rfl ?_
  refine r_aload_n (pc := 8) cx dX10_trailerLoads_8 1 rfl ?_
  refine r_get (pc := 9) cx cf_X10 0 26 rfl (by decide) rfl wd_1342 dX10_trailerLoads_9 ?_
  refine r_bipush (pc := 12) cx dX10_trailerLoads_12 bp_95 ?_
  refine r_iald (pc := 14) cx 15 rfl (by decide) dX10_trailerLoads_14 ?_
  obtain ⟨x2, ex2, hf⟩ := nm_of hf
  refine r_nm ex2 ?_
  refine r_istore_n (pc := 15) (loc' := [(3, .int x2), (2, .int x1), (0, .ref (q 0)), (1, .int a1)]) cx dX10_trailerLoads_15 rfl (by decide) rfl ?_
  refine r_iconst (pc := 16) cx dX10_trailerLoads_16 ic_1 ?_
  refine r_istore (pc := 17) (loc' := [(4, .int (1 : Int32)), (3, .int x2), (2, .int x1), (0, .ref (q 0)), (1, .int a1)]) cx dX10_trailerLoads_17 (by decide) rfl ?_
  have hL19 : ∀ (k19_76 : (Nat → Int32) → Option (Int32 × T_M)), (∀ (f5 : (Nat → Int32)), k19_76 f5 = some (r_, o_v) → WW p l e rm_M_trailerLoads s m args below meth c D A 5 0 0 (MQ below (QI D K A r_ (cl_M K q o_v)) args s 0 0 A) ([((q 0), ob 9 [.int (M_thrown v), .ref (q 1), .int (M_taped (M_tp v)), .ref (q 2), .ref (q 3), .ref (q 4), .ref (q 5), .ref (q 6), .ref (q 7), .ref (q 8), .ref (q 9), .ref (q 10), .ref (q 11), .ref (q 12), .ref (q 13), .ref (q 14), .int (M_lines (M_rd v)), .int (M_size (M_rd v)), .int (M_at (M_rd v)), .int (M_place (M_rd v)), .int (M_sort (M_rd v)), .int (M_value (M_rd v)), .int (M_fault (M_rd v)), .int (M_faultPlace (M_rd v)), .int (M_lastFault (M_lf v)), .int (M_lastPlace (M_lf v)), .ref (q 15), .ref (q 16), .ref (q 17), .ref (q 18), .int (M_hasImage (M_im v)), .int (M_spanNow (M_rn v)), .ref (q 19), .int (M_placeThen (M_rn v)), .int (M_alonePlace (M_al v)), .int (M_aloneSteps (M_al v)), .int (M_aloneOut (M_al v)), .ref (q 20), .ref (q 21), .ref (q 22), .ref (q 23), .int (M_shotAlarm (M_ex v)), .int (M_drawn (M_ex v))]), ((q 1), aI K 700 (M_tape (M_tp v))), ((q 2), aI K 20 (M_number (M_cd v))), ((q 3), aZ K 5 (M_isTold (M_rd v))), ((q 4), aI K 80 (M_codeSort (M_cd v))), ((q 5), aI K 80 (M_codeA (M_cd v))), ((q 6), aI K 80 (M_codeB (M_cd v))), ((q 7), aI K 80 (M_codeC (M_cd v))), ((q 8), aI K 80 (M_codeName (M_cd v))), ((q 9), aI K 80 (M_codePlace (M_cd v))), ((q 10), aI K 80 (M_codeTo (M_cd v))), ((q 11), aI K 280 (M_labelName (M_cd v))), ((q 12), aI K 280 (M_labelAt (M_cd v))), ((q 13), aI K 64 (M_data (M_cd v))), ((q 14), aZ K 32 (M_hasData (M_rd v))), ((q 15), aI K 314 f5), ((q 16), aI K 314 (M_aside (M_ex v))), ((q 17), aI K 314 (M_further (M_ex v))), ((q 18), aI K 314 (M_image (M_im v))), ((q 19), aI K 3 (M_sizeNow (M_rn v))), ((q 20), aI K 8 (M_aloneRegister (M_al v))), ((q 21), aI K 4 (M_aloneReal (M_al v))), ((q 22), aI K 32 (M_aloneMemory (M_al v))), ((q 23), aI K 999 (M_aloneOutput (M_al v)))]) ([(0, .ref (q 0)), (1, .int a1), (2, .int x1), (3, .int x2)]) ([]) 76) → ∀ (n19 : Nat) (x3 : Int32) (f4 : (Nat → Int32)), f_M_trailerLoads_L19 k19_76 n19 x3 f4 = some (r_, o_v) → WW p l e rm_M_trailerLoads s m args below meth c D A 5 0 0 (MQ below (QI D K A r_ (cl_M K q o_v)) args s 0 0 A) ([((q 0), ob 9 [.int (M_thrown v), .ref (q 1), .int (M_taped (M_tp v)), .ref (q 2), .ref (q 3), .ref (q 4), .ref (q 5), .ref (q 6), .ref (q 7), .ref (q 8), .ref (q 9), .ref (q 10), .ref (q 11), .ref (q 12), .ref (q 13), .ref (q 14), .int (M_lines (M_rd v)), .int (M_size (M_rd v)), .int (M_at (M_rd v)), .int (M_place (M_rd v)), .int (M_sort (M_rd v)), .int (M_value (M_rd v)), .int (M_fault (M_rd v)), .int (M_faultPlace (M_rd v)), .int (M_lastFault (M_lf v)), .int (M_lastPlace (M_lf v)), .ref (q 15), .ref (q 16), .ref (q 17), .ref (q 18), .int (M_hasImage (M_im v)), .int (M_spanNow (M_rn v)), .ref (q 19), .int (M_placeThen (M_rn v)), .int (M_alonePlace (M_al v)), .int (M_aloneSteps (M_al v)), .int (M_aloneOut (M_al v)), .ref (q 20), .ref (q 21), .ref (q 22), .ref (q 23), .int (M_shotAlarm (M_ex v)), .int (M_drawn (M_ex v))]), ((q 1), aI K 700 (M_tape (M_tp v))), ((q 2), aI K 20 (M_number (M_cd v))), ((q 3), aZ K 5 (M_isTold (M_rd v))), ((q 4), aI K 80 (M_codeSort (M_cd v))), ((q 5), aI K 80 (M_codeA (M_cd v))), ((q 6), aI K 80 (M_codeB (M_cd v))), ((q 7), aI K 80 (M_codeC (M_cd v))), ((q 8), aI K 80 (M_codeName (M_cd v))), ((q 9), aI K 80 (M_codePlace (M_cd v))), ((q 10), aI K 80 (M_codeTo (M_cd v))), ((q 11), aI K 280 (M_labelName (M_cd v))), ((q 12), aI K 280 (M_labelAt (M_cd v))), ((q 13), aI K 64 (M_data (M_cd v))), ((q 14), aZ K 32 (M_hasData (M_rd v))), ((q 15), aI K 314 f4), ((q 16), aI K 314 (M_aside (M_ex v))), ((q 17), aI K 314 (M_further (M_ex v))), ((q 18), aI K 314 (M_image (M_im v))), ((q 19), aI K 3 (M_sizeNow (M_rn v))), ((q 20), aI K 8 (M_aloneRegister (M_al v))), ((q 21), aI K 4 (M_aloneReal (M_al v))), ((q 22), aI K 32 (M_aloneMemory (M_al v))), ((q 23), aI K 999 (M_aloneOutput (M_al v)))]) ([(0, .ref (q 0)), (1, .int a1), (2, .int x1), (3, .int x2), (4, .int x3)]) ([]) 19 := by
    intro k19_76 hk19_76 n19
    induction n19 with
    | zero => intro x3 f4 hf; exact (nomatch (show (none : Option (Int32 × T_M)) = some _ from hf))
    | succ n19 ih19 =>
      intro x3 f4 hf
      rw [f_M_trailerLoads_L19] at hf
      refine r_iload (pc := 19) cx dX10_trailerLoads_19 4 rfl ?_
      refine r_bipush (pc := 21) cx dX10_trailerLoads_21 bp_8 ?_
      refine r_icmp_ge (pc := 23) (tgt := 76) cx dX10_trailerLoads_23 (by decide) (fun h6 => ?_) (fun h6 => ?_)
      · have hf := ifp h6 hf
        refine r_loc (loc' := [(0, .ref (q 0)), (1, .int a1), (2, .int x1), (3, .int x2)]) [0, 1, 2, 3] rfl ?_
        exact hk19_76 _ hf
      · have hf := ifn h6 hf
        refine r_aload_n (pc := 26) cx dX10_trailerLoads_26 0 rfl ?_
        refine r_get (pc := 27) cx cf_X10 0 26 rfl (by decide) rfl wd_1342 dX10_trailerLoads_27 ?_
        refine r_bipush (pc := 30) cx dX10_trailerLoads_30 bp_87 ?_
        refine r_iload (pc := 32) cx dX10_trailerLoads_32 4 rfl ?_
        refine r_iadd (pc := 34) cx dX10_trailerLoads_34 ?_
        refine r_iconst (pc := 35) cx dX10_trailerLoads_35 ic_1 ?_
        refine r_isub (pc := 36) cx dX10_trailerLoads_36 ?_
        refine r_aload_n (pc := 37) cx dX10_trailerLoads_37 0 rfl ?_
        refine r_get (pc := 38) cx cf_X10 0 26 rfl (by decide) rfl wd_1342 dX10_trailerLoads_38 ?_
        refine r_bipush (pc := 41) cx dX10_trailerLoads_41 bp_87 ?_
        refine r_iload (pc := 43) cx dX10_trailerLoads_43 4 rfl ?_
        refine r_iadd (pc := 45) cx dX10_trailerLoads_45 ?_
        obtain ⟨h7, hf⟩ := chk_of hf
        refine r_iald (pc := 46) cx 15 rfl h7 dX10_trailerLoads_46 ?_
        obtain ⟨x8, ex8, hf⟩ := nm_of hf
        refine r_nm ex8 ?_
        obtain ⟨h9, hf⟩ := chk_of hf
        obtain ⟨f10, ef10, hf⟩ := nm_of hf
        refine r_iast (pc := 47) (ws' := [((q 0), ob 9 [.int (M_thrown v), .ref (q 1), .int (M_taped (M_tp v)), .ref (q 2), .ref (q 3), .ref (q 4), .ref (q 5), .ref (q 6), .ref (q 7), .ref (q 8), .ref (q 9), .ref (q 10), .ref (q 11), .ref (q 12), .ref (q 13), .ref (q 14), .int (M_lines (M_rd v)), .int (M_size (M_rd v)), .int (M_at (M_rd v)), .int (M_place (M_rd v)), .int (M_sort (M_rd v)), .int (M_value (M_rd v)), .int (M_fault (M_rd v)), .int (M_faultPlace (M_rd v)), .int (M_lastFault (M_lf v)), .int (M_lastPlace (M_lf v)), .ref (q 15), .ref (q 16), .ref (q 17), .ref (q 18), .int (M_hasImage (M_im v)), .int (M_spanNow (M_rn v)), .ref (q 19), .int (M_placeThen (M_rn v)), .int (M_alonePlace (M_al v)), .int (M_aloneSteps (M_al v)), .int (M_aloneOut (M_al v)), .ref (q 20), .ref (q 21), .ref (q 22), .ref (q 23), .int (M_shotAlarm (M_ex v)), .int (M_drawn (M_ex v))]), ((q 1), aI K 700 (M_tape (M_tp v))), ((q 2), aI K 20 (M_number (M_cd v))), ((q 3), aZ K 5 (M_isTold (M_rd v))), ((q 4), aI K 80 (M_codeSort (M_cd v))), ((q 5), aI K 80 (M_codeA (M_cd v))), ((q 6), aI K 80 (M_codeB (M_cd v))), ((q 7), aI K 80 (M_codeC (M_cd v))), ((q 8), aI K 80 (M_codeName (M_cd v))), ((q 9), aI K 80 (M_codePlace (M_cd v))), ((q 10), aI K 80 (M_codeTo (M_cd v))), ((q 11), aI K 280 (M_labelName (M_cd v))), ((q 12), aI K 280 (M_labelAt (M_cd v))), ((q 13), aI K 64 (M_data (M_cd v))), ((q 14), aZ K 32 (M_hasData (M_rd v))), ((q 15), aI K 314 f10), ((q 16), aI K 314 (M_aside (M_ex v))), ((q 17), aI K 314 (M_further (M_ex v))), ((q 18), aI K 314 (M_image (M_im v))), ((q 19), aI K 3 (M_sizeNow (M_rn v))), ((q 20), aI K 8 (M_aloneRegister (M_al v))), ((q 21), aI K 4 (M_aloneReal (M_al v))), ((q 22), aI K 32 (M_aloneMemory (M_al v))), ((q 23), aI K 999 (M_aloneOutput (M_al v)))]) cx 15 rfl h9 dX10_trailerLoads_47 ef10 rfl ?_
        refine r_aload_n (pc := 48) cx dX10_trailerLoads_48 0 rfl ?_
        refine r_get (pc := 49) cx cf_X10 0 26 rfl (by decide) rfl wd_1342 dX10_trailerLoads_49 ?_
        refine r_bipush (pc := 52) cx dX10_trailerLoads_52 bp_95 ?_
        refine r_iload (pc := 54) cx dX10_trailerLoads_54 4 rfl ?_
        refine r_iadd (pc := 56) cx dX10_trailerLoads_56 ?_
        refine r_iconst (pc := 57) cx dX10_trailerLoads_57 ic_1 ?_
        refine r_isub (pc := 58) cx dX10_trailerLoads_58 ?_
        refine r_aload_n (pc := 59) cx dX10_trailerLoads_59 0 rfl ?_
        refine r_get (pc := 60) cx cf_X10 0 26 rfl (by decide) rfl wd_1342 dX10_trailerLoads_60 ?_
        refine r_bipush (pc := 63) cx dX10_trailerLoads_63 bp_95 ?_
        refine r_iload (pc := 65) cx dX10_trailerLoads_65 4 rfl ?_
        refine r_iadd (pc := 67) cx dX10_trailerLoads_67 ?_
        obtain ⟨h11, hf⟩ := chk_of hf
        refine r_iald (pc := 68) cx 15 rfl h11 dX10_trailerLoads_68 ?_
        obtain ⟨x12, ex12, hf⟩ := nm_of hf
        refine r_nm ex12 ?_
        obtain ⟨h13, hf⟩ := chk_of hf
        obtain ⟨f14, ef14, hf⟩ := nm_of hf
        refine r_iast (pc := 69) (ws' := [((q 0), ob 9 [.int (M_thrown v), .ref (q 1), .int (M_taped (M_tp v)), .ref (q 2), .ref (q 3), .ref (q 4), .ref (q 5), .ref (q 6), .ref (q 7), .ref (q 8), .ref (q 9), .ref (q 10), .ref (q 11), .ref (q 12), .ref (q 13), .ref (q 14), .int (M_lines (M_rd v)), .int (M_size (M_rd v)), .int (M_at (M_rd v)), .int (M_place (M_rd v)), .int (M_sort (M_rd v)), .int (M_value (M_rd v)), .int (M_fault (M_rd v)), .int (M_faultPlace (M_rd v)), .int (M_lastFault (M_lf v)), .int (M_lastPlace (M_lf v)), .ref (q 15), .ref (q 16), .ref (q 17), .ref (q 18), .int (M_hasImage (M_im v)), .int (M_spanNow (M_rn v)), .ref (q 19), .int (M_placeThen (M_rn v)), .int (M_alonePlace (M_al v)), .int (M_aloneSteps (M_al v)), .int (M_aloneOut (M_al v)), .ref (q 20), .ref (q 21), .ref (q 22), .ref (q 23), .int (M_shotAlarm (M_ex v)), .int (M_drawn (M_ex v))]), ((q 1), aI K 700 (M_tape (M_tp v))), ((q 2), aI K 20 (M_number (M_cd v))), ((q 3), aZ K 5 (M_isTold (M_rd v))), ((q 4), aI K 80 (M_codeSort (M_cd v))), ((q 5), aI K 80 (M_codeA (M_cd v))), ((q 6), aI K 80 (M_codeB (M_cd v))), ((q 7), aI K 80 (M_codeC (M_cd v))), ((q 8), aI K 80 (M_codeName (M_cd v))), ((q 9), aI K 80 (M_codePlace (M_cd v))), ((q 10), aI K 80 (M_codeTo (M_cd v))), ((q 11), aI K 280 (M_labelName (M_cd v))), ((q 12), aI K 280 (M_labelAt (M_cd v))), ((q 13), aI K 64 (M_data (M_cd v))), ((q 14), aZ K 32 (M_hasData (M_rd v))), ((q 15), aI K 314 f14), ((q 16), aI K 314 (M_aside (M_ex v))), ((q 17), aI K 314 (M_further (M_ex v))), ((q 18), aI K 314 (M_image (M_im v))), ((q 19), aI K 3 (M_sizeNow (M_rn v))), ((q 20), aI K 8 (M_aloneRegister (M_al v))), ((q 21), aI K 4 (M_aloneReal (M_al v))), ((q 22), aI K 32 (M_aloneMemory (M_al v))), ((q 23), aI K 999 (M_aloneOutput (M_al v)))]) cx 15 rfl h13 dX10_trailerLoads_69 ef14 rfl ?_
        obtain ⟨x15, ex15, hf⟩ := nm_of hf
        refine r_iinc (pc := 70) (loc' := [(4, .int x15), (0, .ref (q 0)), (1, .int a1), (2, .int x1), (3, .int x2)]) (v := x15) cx dX10_trailerLoads_70 4 rfl ((congrArg (fun z => x3 + z) ic_1).trans ex15.symm) (by decide) rfl ?_
        refine r_goto (pc := 73) (tgt := 19) cx dX10_trailerLoads_73 (by decide) ?_
        refine r_loc (loc' := [(0, .ref (q 0)), (1, .int a1), (2, .int x1), (3, .int x2), (4, .int x15)]) [1, 2, 3, 4, 0] rfl ?_
        exact ih19 _ _ hf
  refine r_loc (loc' := [(0, .ref (q 0)), (1, .int a1), (2, .int x1), (3, .int x2), (4, .int (1 : Int32))]) [3, 4, 2, 1, 0] rfl ?_
  refine hL19 _ (fun f5 hf => ?_) _ _ _ hf
  refine r_aload_n (pc := 76) cx dX10_trailerLoads_76 0 rfl ?_
  refine r_get (pc := 77) cx cf_X10 0 26 rfl (by decide) rfl wd_1342 dX10_trailerLoads_77 ?_
  refine r_bipush (pc := 80) cx dX10_trailerLoads_80 bp_86 ?_
  refine r_dup2 (pc := 82) cx dX10_trailerLoads_82 rfl rfl ?_
  refine r_iald (pc := 83) cx 15 rfl (by decide) dX10_trailerLoads_83 ?_
  refine r_iconst (pc := 84) cx dX10_trailerLoads_84 ic_1 ?_
  refine r_isub (pc := 85) cx dX10_trailerLoads_85 ?_
  obtain ⟨x16, ex16, hf⟩ := nm_of hf
  refine r_nm ex16 ?_
  obtain ⟨f17, ef17, hf⟩ := nm_of hf
  refine r_iast (pc := 86) (ws' := [((q 0), ob 9 [.int (M_thrown v), .ref (q 1), .int (M_taped (M_tp v)), .ref (q 2), .ref (q 3), .ref (q 4), .ref (q 5), .ref (q 6), .ref (q 7), .ref (q 8), .ref (q 9), .ref (q 10), .ref (q 11), .ref (q 12), .ref (q 13), .ref (q 14), .int (M_lines (M_rd v)), .int (M_size (M_rd v)), .int (M_at (M_rd v)), .int (M_place (M_rd v)), .int (M_sort (M_rd v)), .int (M_value (M_rd v)), .int (M_fault (M_rd v)), .int (M_faultPlace (M_rd v)), .int (M_lastFault (M_lf v)), .int (M_lastPlace (M_lf v)), .ref (q 15), .ref (q 16), .ref (q 17), .ref (q 18), .int (M_hasImage (M_im v)), .int (M_spanNow (M_rn v)), .ref (q 19), .int (M_placeThen (M_rn v)), .int (M_alonePlace (M_al v)), .int (M_aloneSteps (M_al v)), .int (M_aloneOut (M_al v)), .ref (q 20), .ref (q 21), .ref (q 22), .ref (q 23), .int (M_shotAlarm (M_ex v)), .int (M_drawn (M_ex v))]), ((q 1), aI K 700 (M_tape (M_tp v))), ((q 2), aI K 20 (M_number (M_cd v))), ((q 3), aZ K 5 (M_isTold (M_rd v))), ((q 4), aI K 80 (M_codeSort (M_cd v))), ((q 5), aI K 80 (M_codeA (M_cd v))), ((q 6), aI K 80 (M_codeB (M_cd v))), ((q 7), aI K 80 (M_codeC (M_cd v))), ((q 8), aI K 80 (M_codeName (M_cd v))), ((q 9), aI K 80 (M_codePlace (M_cd v))), ((q 10), aI K 80 (M_codeTo (M_cd v))), ((q 11), aI K 280 (M_labelName (M_cd v))), ((q 12), aI K 280 (M_labelAt (M_cd v))), ((q 13), aI K 64 (M_data (M_cd v))), ((q 14), aZ K 32 (M_hasData (M_rd v))), ((q 15), aI K 314 f17), ((q 16), aI K 314 (M_aside (M_ex v))), ((q 17), aI K 314 (M_further (M_ex v))), ((q 18), aI K 314 (M_image (M_im v))), ((q 19), aI K 3 (M_sizeNow (M_rn v))), ((q 20), aI K 8 (M_aloneRegister (M_al v))), ((q 21), aI K 4 (M_aloneReal (M_al v))), ((q 22), aI K 32 (M_aloneMemory (M_al v))), ((q 23), aI K 999 (M_aloneOutput (M_al v)))]) cx 15 rfl (by decide) dX10_trailerLoads_86 ef17 rfl ?_
  refine r_iload_n (pc := 87) cx dX10_trailerLoads_87 2 rfl ?_
  refine r_aload_n (pc := 88) cx dX10_trailerLoads_88 0 rfl ?_
  refine r_iconst (pc := 89) cx dX10_trailerLoads_89 ic_1 ?_
  refine r_iload_n (pc := 90) cx dX10_trailerLoads_90 1 rfl ?_
  obtain ⟨r18, hc19, hf⟩ := bd_of hf
  refine r_Vi (pc := 91) (ws' := [((q 0), ob 9 [.int (M_thrown v), .ref (q 1), .int (M_taped (M_tp v)), .ref (q 2), .ref (q 3), .ref (q 4), .ref (q 5), .ref (q 6), .ref (q 7), .ref (q 8), .ref (q 9), .ref (q 10), .ref (q 11), .ref (q 12), .ref (q 13), .ref (q 14), .int (M_lines (M_rd v)), .int (M_size (M_rd v)), .int (M_at (M_rd v)), .int (M_place (M_rd v)), .int (M_sort (M_rd v)), .int (M_value (M_rd v)), .int (M_fault (M_rd v)), .int (M_faultPlace (M_rd v)), .int (M_lastFault (M_lf v)), .int (M_lastPlace (M_lf v)), .ref (q 15), .ref (q 16), .ref (q 17), .ref (q 18), .int (M_hasImage (M_im v)), .int (M_spanNow (M_rn v)), .ref (q 19), .int (M_placeThen (M_rn v)), .int (M_alonePlace (M_al v)), .int (M_aloneSteps (M_al v)), .int (M_aloneOut (M_al v)), .ref (q 20), .ref (q 21), .ref (q 22), .ref (q 23), .int (M_shotAlarm (M_ex v)), .int (M_drawn (M_ex v))]), ((q 1), aI K 700 (M_tape (M_tp v))), ((q 2), aI K 20 (M_number (M_cd v))), ((q 3), aZ K 5 (M_isTold (M_rd v))), ((q 4), aI K 80 (M_codeSort (M_cd v))), ((q 5), aI K 80 (M_codeA (M_cd v))), ((q 6), aI K 80 (M_codeB (M_cd v))), ((q 7), aI K 80 (M_codeC (M_cd v))), ((q 8), aI K 80 (M_codeName (M_cd v))), ((q 9), aI K 80 (M_codePlace (M_cd v))), ((q 10), aI K 80 (M_codeTo (M_cd v))), ((q 11), aI K 280 (M_labelName (M_cd v))), ((q 12), aI K 280 (M_labelAt (M_cd v))), ((q 13), aI K 64 (M_data (M_cd v))), ((q 14), aZ K 32 (M_hasData (M_rd v))), ((q 15), aI K 314 f17), ((q 16), aI K 314 (M_aside (M_ex v))), ((q 17), aI K 314 (M_further (M_ex v))), ((q 18), aI K 314 (M_image (M_im v))), ((q 19), aI K 3 (M_sizeNow (M_rn v))), ((q 20), aI K 8 (M_aloneRegister (M_al v))), ((q 21), aI K 4 (M_aloneReal (M_al v))), ((q 22), aI K 32 (M_aloneMemory (M_al v))), ((q 23), aI K 999 (M_aloneOutput (M_al v)))]) (nn := 24) cx [.int (1 : Int32), .int a1] [.int x1] (m_M_addressOf l D K q ((M_tp v), (M_rd v), (M_lf v), (M_cd v), (f17, (M_spanNow (M_rn v)), (M_sizeNow (M_rn v)), (M_placeThen (M_rn v))), (M_ex v), (M_im v), (M_al v), (M_thrown v)) (1 : Int32) a1 hc19) yv_X10_addressOf wd_1611 ⟨rfl, rfl⟩ (by decide) (fr_s (j := 0) rfl rfl rfl (fr_s (j := 1) rfl rfl rfl (fr_s (j := 2) rfl rfl rfl (fr_s (j := 3) rfl rfl rfl (fr_s (j := 4) rfl rfl rfl (fr_s (j := 5) rfl rfl rfl (fr_s (j := 6) rfl rfl rfl (fr_s (j := 7) rfl rfl rfl (fr_s (j := 8) rfl rfl rfl (fr_s (j := 9) rfl rfl rfl (fr_s (j := 10) rfl rfl rfl (fr_s (j := 11) rfl rfl rfl (fr_s (j := 12) rfl rfl rfl (fr_s (j := 13) rfl rfl rfl (fr_s (j := 14) rfl rfl rfl (fr_s (j := 15) rfl rfl rfl (fr_s (j := 16) rfl rfl rfl (fr_s (j := 17) rfl rfl rfl (fr_s (j := 18) rfl rfl rfl (fr_s (j := 19) rfl rfl rfl (fr_s (j := 20) rfl rfl rfl (fr_s (j := 21) rfl rfl rfl (fr_s (j := 22) rfl rfl rfl (fr_s (j := 23) rfl rfl rfl (fr_n))))))))))))))))))))))))) rfl (by decide) 0 rfl rfl rfl (Nat.le_of_ble_eq_true rfl) dX10_trailerLoads_91 ?_
  refine r_icmp_eq (pc := 94) (tgt := 99) cx dX10_trailerLoads_94 (by decide) (fun h20 => ?_) (fun h20 => ?_)
  · have hf := ifp h20 hf
    refine r_aload_n (pc := 99) cx dX10_trailerLoads_99 0 rfl ?_
    refine r_get (pc := 100) cx cf_X10 0 26 rfl (by decide) rfl wd_1342 dX10_trailerLoads_100 ?_
    refine r_bipush (pc := 103) cx dX10_trailerLoads_103 bp_12 ?_
    refine r_aload_n (pc := 105) cx dX10_trailerLoads_105 0 rfl ?_
    refine r_get (pc := 106) cx cf_X10 0 6 rfl (by decide) rfl wd_1322 dX10_trailerLoads_106 ?_
    refine r_iload_n (pc := 109) cx dX10_trailerLoads_109 1 rfl ?_
    obtain ⟨h21, hf⟩ := chk_of hf
    refine r_iald (pc := 110) cx 5 rfl h21 dX10_trailerLoads_110 ?_
    refine r_iadd (pc := 111) cx dX10_trailerLoads_111 ?_
    refine r_iload_n (pc := 112) cx dX10_trailerLoads_112 3 rfl ?_
    obtain ⟨h22, hf⟩ := chk_of hf
    obtain ⟨f23, ef23, hf⟩ := nm_of hf
    refine r_iast (pc := 113) (ws' := [((q 0), ob 9 [.int (M_thrown v), .ref (q 1), .int (M_taped (M_tp v)), .ref (q 2), .ref (q 3), .ref (q 4), .ref (q 5), .ref (q 6), .ref (q 7), .ref (q 8), .ref (q 9), .ref (q 10), .ref (q 11), .ref (q 12), .ref (q 13), .ref (q 14), .int (M_lines (M_rd v)), .int (M_size (M_rd v)), .int (M_at (M_rd v)), .int (M_place (M_rd v)), .int (M_sort (M_rd v)), .int (M_value (M_rd v)), .int (M_fault (M_rd v)), .int (M_faultPlace (M_rd v)), .int (M_lastFault (M_lf v)), .int (M_lastPlace (M_lf v)), .ref (q 15), .ref (q 16), .ref (q 17), .ref (q 18), .int (M_hasImage (M_im v)), .int (M_spanNow (M_rn v)), .ref (q 19), .int (M_placeThen (M_rn v)), .int (M_alonePlace (M_al v)), .int (M_aloneSteps (M_al v)), .int (M_aloneOut (M_al v)), .ref (q 20), .ref (q 21), .ref (q 22), .ref (q 23), .int (M_shotAlarm (M_ex v)), .int (M_drawn (M_ex v))]), ((q 1), aI K 700 (M_tape (M_tp v))), ((q 2), aI K 20 (M_number (M_cd v))), ((q 3), aZ K 5 (M_isTold (M_rd v))), ((q 4), aI K 80 (M_codeSort (M_cd v))), ((q 5), aI K 80 (M_codeA (M_cd v))), ((q 6), aI K 80 (M_codeB (M_cd v))), ((q 7), aI K 80 (M_codeC (M_cd v))), ((q 8), aI K 80 (M_codeName (M_cd v))), ((q 9), aI K 80 (M_codePlace (M_cd v))), ((q 10), aI K 80 (M_codeTo (M_cd v))), ((q 11), aI K 280 (M_labelName (M_cd v))), ((q 12), aI K 280 (M_labelAt (M_cd v))), ((q 13), aI K 64 (M_data (M_cd v))), ((q 14), aZ K 32 (M_hasData (M_rd v))), ((q 15), aI K 314 f23), ((q 16), aI K 314 (M_aside (M_ex v))), ((q 17), aI K 314 (M_further (M_ex v))), ((q 18), aI K 314 (M_image (M_im v))), ((q 19), aI K 3 (M_sizeNow (M_rn v))), ((q 20), aI K 8 (M_aloneRegister (M_al v))), ((q 21), aI K 4 (M_aloneReal (M_al v))), ((q 22), aI K 32 (M_aloneMemory (M_al v))), ((q 23), aI K 999 (M_aloneOutput (M_al v)))]) cx 15 rfl h22 dX10_trailerLoads_113 ef23 rfl ?_
    refine r_iconst (pc := 114) cx dX10_trailerLoads_114 ic_0 ?_
    cases hf
    exact r_iret (pc := 115) cx rfl rfl dX10_trailerLoads_115
  · have hf := ifn h20 hf
    refine r_iconst (pc := 97) cx dX10_trailerLoads_97 ic_1 ?_
    cases hf
    exact r_iret (pc := 98) cx rfl rfl dX10_trailerLoads_98
theorem yv_X10_trailerLoads : YV yX10_trailerLoads cX10_trailerLoads 5 (some .int) 1 := ⟨⟨by decide +kernel, by decide +kernel, by decide +kernel⟩, wd_1618, wd_102, wd_1617, wd_63⟩
def f_M_stepped (v : T_M) (a1 : Int32) : Option (Int32 × T_M) :=
  (if ix ((0 : Int32) + a1) 314 then (nm ((M_s (M_rn v)) (((0 : Int32) + a1)).toNatClampNeg) fun (x2 : Int32) => (if ix x2 80 then (nm ((M_codeSort (M_cd v)) x2.toNatClampNeg) fun (x4 : Int32) => (nm ((4 : Int32) + ((8 : Int32) * a1)) fun (x5 : Int32) => (nm ((20 : Int32) + ((4 : Int32) * a1)) fun (x6 : Int32) => (if ix x2 80 then (nm (x5 + (((M_codeB (M_cd v)) x2.toNatClampNeg) - ((M_codeB (M_cd v)) x2.toNatClampNeg) / (8 : Int32) * (8 : Int32))) fun (x8 : Int32) => (if ix x8 314 then (nm ((M_s (M_rn v)) x8.toNatClampNeg) fun (x10 : Int32) => (nm ((x2 + (1 : Int32)) - (x2 + (1 : Int32)) / (64 : Int32) * (64 : Int32)) fun (x11 : Int32) => (nm (fun (x12 : Int32) (v13 : T_M) => ((nm (M_placeThen (M_rn v13)) fun (x15 : Int32) => (if ix ((0 : Int32) + a1) 314 then (nm (upd (M_s (M_rn v13)) (((0 : Int32) + a1)).toNatClampNeg x15) fun (f17 : Nat → Int32) => (nm ((2 : Int32) + a1) fun (x18 : Int32) => (if ix x18 314 then (nm ((f17 x18.toNatClampNeg) + (1 : Int32)) fun (x20 : Int32) => (if ix x18 314 then (nm (upd f17 x18.toNatClampNeg x20) fun (f22 : Nat → Int32) => (bd (f_M_sticks ((M_tp v13), (M_rd v13), (M_lf v13), (M_cd v13), (f22, (M_spanNow (M_rn v13)), (M_sizeNow (M_rn v13)), (M_placeThen (M_rn v13))), (M_ex v13), (M_im v13), (M_al v13), (M_thrown v13))) fun (v23 : T_M) => (some (x12, v23)))) else none)) else none))) else none)) : Option (Int32 × T_M))) fun J14 => (if x4 = (7 : Int32) then (if ix x2 80 then (if ix x2 80 then (nm ((M_codeB (M_cd v)) x2.toNatClampNeg) fun (x28 : Int32) => (if ix (x5 + ((M_codeA (M_cd v)) x2.toNatClampNeg)) 314 then (nm (upd (M_s (M_rn v)) ((x5 + ((M_codeA (M_cd v)) x2.toNatClampNeg))).toNatClampNeg x28) fun (f30 : Nat → Int32) => (J14 (0 : Int32) ((M_tp v), (M_rd v), (M_lf v), (M_cd v), (f30, (M_spanNow (M_rn v)), (M_sizeNow (M_rn v)), x11), (M_ex v), (M_im v), (M_al v), (M_thrown v)))) else none)) else none) else none) else (if x4 = (8 : Int32) then (if ix x2 80 then (if ix x2 80 then (if ix (x5 + ((M_codeC (M_cd v)) x2.toNatClampNeg)) 314 then (nm (x10 + ((M_s (M_rn v)) ((x5 + ((M_codeC (M_cd v)) x2.toNatClampNeg))).toNatClampNeg)) fun (x35 : Int32) => (if ix (x5 + ((M_codeA (M_cd v)) x2.toNatClampNeg)) 314 then (nm (upd (M_s (M_rn v)) ((x5 + ((M_codeA (M_cd v)) x2.toNatClampNeg))).toNatClampNeg x35) fun (f37 : Nat → Int32) => (J14 (0 : Int32) ((M_tp v), (M_rd v), (M_lf v), (M_cd v), (f37, (M_spanNow (M_rn v)), (M_sizeNow (M_rn v)), x11), (M_ex v), (M_im v), (M_al v), (M_thrown v)))) else none)) else none) else none) else none) else (if x4 = (9 : Int32) then (if ix x2 80 then (if ix x2 80 then (if ix (x5 + ((M_codeC (M_cd v)) x2.toNatClampNeg)) 314 then (nm (x10 - ((M_s (M_rn v)) ((x5 + ((M_codeC (M_cd v)) x2.toNatClampNeg))).toNatClampNeg)) fun (x42 : Int32) => (if ix (x5 + ((M_codeA (M_cd v)) x2.toNatClampNeg)) 314 then (nm (upd (M_s (M_rn v)) ((x5 + ((M_codeA (M_cd v)) x2.toNatClampNeg))).toNatClampNeg x42) fun (f44 : Nat → Int32) => (J14 (0 : Int32) ((M_tp v), (M_rd v), (M_lf v), (M_cd v), (f44, (M_spanNow (M_rn v)), (M_sizeNow (M_rn v)), x11), (M_ex v), (M_im v), (M_al v), (M_thrown v)))) else none)) else none) else none) else none) else (if x4 = (10 : Int32) then (if ix x2 80 then (if ix x2 80 then (if ix (x5 + ((M_codeC (M_cd v)) x2.toNatClampNeg)) 314 then (nm (x10 * ((M_s (M_rn v)) ((x5 + ((M_codeC (M_cd v)) x2.toNatClampNeg))).toNatClampNeg)) fun (x49 : Int32) => (if ix (x5 + ((M_codeA (M_cd v)) x2.toNatClampNeg)) 314 then (nm (upd (M_s (M_rn v)) ((x5 + ((M_codeA (M_cd v)) x2.toNatClampNeg))).toNatClampNeg x49) fun (f51 : Nat → Int32) => (J14 (0 : Int32) ((M_tp v), (M_rd v), (M_lf v), (M_cd v), (f51, (M_spanNow (M_rn v)), (M_sizeNow (M_rn v)), x11), (M_ex v), (M_im v), (M_al v), (M_thrown v)))) else none)) else none) else none) else none) else (if x4 = (11 : Int32) then (if ix x2 80 then (if ix x2 80 then (if ix (x5 + ((M_codeC (M_cd v)) x2.toNatClampNeg)) 314 then (nm (x10 ^^^ ((M_s (M_rn v)) ((x5 + ((M_codeC (M_cd v)) x2.toNatClampNeg))).toNatClampNeg)) fun (x56 : Int32) => (if ix (x5 + ((M_codeA (M_cd v)) x2.toNatClampNeg)) 314 then (nm (upd (M_s (M_rn v)) ((x5 + ((M_codeA (M_cd v)) x2.toNatClampNeg))).toNatClampNeg x56) fun (f58 : Nat → Int32) => (J14 (0 : Int32) ((M_tp v), (M_rd v), (M_lf v), (M_cd v), (f58, (M_spanNow (M_rn v)), (M_sizeNow (M_rn v)), x11), (M_ex v), (M_im v), (M_al v), (M_thrown v)))) else none)) else none) else none) else none) else (if x4 = (12 : Int32) then (if a1 = (0 : Int32) then (bd2 (f_M_leaderLoads ((M_tp v), (M_rd v), (M_lf v), (M_cd v), ((M_s (M_rn v)), (M_spanNow (M_rn v)), (M_sizeNow (M_rn v)), x11), (M_ex v), (M_im v), (M_al v), (M_thrown v)) x2) fun (r64 : Int32) (v65 : T_M) => (J14 r64 v65)) else (bd2 (f_M_trailerLoads ((M_tp v), (M_rd v), (M_lf v), (M_cd v), ((M_s (M_rn v)), (M_spanNow (M_rn v)), (M_sizeNow (M_rn v)), x11), (M_ex v), (M_im v), (M_al v), (M_thrown v)) x2) fun (r61 : Int32) (v62 : T_M) => (J14 r61 v62))) else (if x4 = (13 : Int32) then (if a1 = (0 : Int32) then (bd (f_M_addressOf ((M_tp v), (M_rd v), (M_lf v), (M_cd v), ((M_s (M_rn v)), (M_spanNow (M_rn v)), (M_sizeNow (M_rn v)), x11), (M_ex v), (M_im v), (M_al v), (M_thrown v)) (0 : Int32) x2) fun (r76 : Int32) => (if ix x2 80 then (if ix (x5 + ((M_codeA (M_cd v)) x2.toNatClampNeg)) 314 then (bd2 (f_M_leaderHolds ((M_tp v), (M_rd v), (M_lf v), (M_cd v), ((M_s (M_rn v)), (M_spanNow (M_rn v)), (M_sizeNow (M_rn v)), x11), (M_ex v), (M_im v), (M_al v), (M_thrown v)) r76 ((M_s (M_rn v)) ((x5 + ((M_codeA (M_cd v)) x2.toNatClampNeg))).toNatClampNeg)) fun (r80 : Int32) (v81 : T_M) => (J14 r80 v81)) else none) else none)) else (bd (f_M_addressOf ((M_tp v), (M_rd v), (M_lf v), (M_cd v), ((M_s (M_rn v)), (M_spanNow (M_rn v)), (M_sizeNow (M_rn v)), x11), (M_ex v), (M_im v), (M_al v), (M_thrown v)) (1 : Int32) x2) fun (r69 : Int32) => (if ix x2 80 then (if ix (x5 + ((M_codeA (M_cd v)) x2.toNatClampNeg)) 314 then (bd2 (f_M_trailerHolds ((M_tp v), (M_rd v), (M_lf v), (M_cd v), ((M_s (M_rn v)), (M_spanNow (M_rn v)), (M_sizeNow (M_rn v)), x11), (M_ex v), (M_im v), (M_al v), (M_thrown v)) r69 ((M_s (M_rn v)) ((x5 + ((M_codeA (M_cd v)) x2.toNatClampNeg))).toNatClampNeg)) fun (r73 : Int32) (v74 : T_M) => (J14 r73 v74)) else none) else none))) else (if x4 = (14 : Int32) then (if a1 = (0 : Int32) then (if ix x2 80 then (if ix (x5 + ((M_codeA (M_cd v)) x2.toNatClampNeg)) 314 then (bd2 (f_M_leaderHolds ((M_tp v), (M_rd v), (M_lf v), (M_cd v), ((M_s (M_rn v)), (M_spanNow (M_rn v)), (M_sizeNow (M_rn v)), x11), (M_ex v), (M_im v), (M_al v), (M_thrown v)) (32 : Int32) ((M_s (M_rn v)) ((x5 + ((M_codeA (M_cd v)) x2.toNatClampNeg))).toNatClampNeg)) fun (r92 : Int32) (v93 : T_M) => (J14 r92 v93)) else none) else none) else (if ix x2 80 then (if ix (x5 + ((M_codeA (M_cd v)) x2.toNatClampNeg)) 314 then (bd2 (f_M_trailerHolds ((M_tp v), (M_rd v), (M_lf v), (M_cd v), ((M_s (M_rn v)), (M_spanNow (M_rn v)), (M_sizeNow (M_rn v)), x11), (M_ex v), (M_im v), (M_al v), (M_thrown v)) (32 : Int32) ((M_s (M_rn v)) ((x5 + ((M_codeA (M_cd v)) x2.toNatClampNeg))).toNatClampNeg)) fun (r87 : Int32) (v88 : T_M) => (J14 r87 v88)) else none) else none)) else (if x4 = (15 : Int32) then (if ix x2 80 then (bd (f_M_cut (FP.i2d x10)) fun (r97 : Int32) => (if ix (x6 + ((M_codeA (M_cd v)) x2.toNatClampNeg)) 314 then (nm (upd (M_s (M_rn v)) ((x6 + ((M_codeA (M_cd v)) x2.toNatClampNeg))).toNatClampNeg r97) fun (f100 : Nat → Int32) => (J14 (0 : Int32) ((M_tp v), (M_rd v), (M_lf v), (M_cd v), (f100, (M_spanNow (M_rn v)), (M_sizeNow (M_rn v)), x11), (M_ex v), (M_im v), (M_al v), (M_thrown v)))) else none)) else none) else (if x4 = (16 : Int32) then (if ix x2 80 then (if ix x2 80 then (if ix (x6 + ((M_codeB (M_cd v)) x2.toNatClampNeg)) 314 then (bd (f_M_whole ((M_s (M_rn v)) ((x6 + ((M_codeB (M_cd v)) x2.toNatClampNeg))).toNatClampNeg)) fun (r105 : Int32) => (if ix (x5 + ((M_codeA (M_cd v)) x2.toNatClampNeg)) 314 then (nm (upd (M_s (M_rn v)) ((x5 + ((M_codeA (M_cd v)) x2.toNatClampNeg))).toNatClampNeg r105) fun (f108 : Nat → Int32) => (J14 (0 : Int32) ((M_tp v), (M_rd v), (M_lf v), (M_cd v), (f108, (M_spanNow (M_rn v)), (M_sizeNow (M_rn v)), x11), (M_ex v), (M_im v), (M_al v), (M_thrown v)))) else none)) else none) else none) else none) else (if x4 = (17 : Int32) then (if ix x2 80 then (if ix x2 80 then (if ix (x6 + ((M_codeB (M_cd v)) x2.toNatClampNeg)) 314 then (nm ((M_s (M_rn v)) ((x6 + ((M_codeB (M_cd v)) x2.toNatClampNeg))).toNatClampNeg) fun (x113 : Int32) => (if ix (x5 + ((M_codeA (M_cd v)) x2.toNatClampNeg)) 314 then (nm (upd (M_s (M_rn v)) ((x5 + ((M_codeA (M_cd v)) x2.toNatClampNeg))).toNatClampNeg x113) fun (f115 : Nat → Int32) => (J14 (0 : Int32) ((M_tp v), (M_rd v), (M_lf v), (M_cd v), (f115, (M_spanNow (M_rn v)), (M_sizeNow (M_rn v)), x11), (M_ex v), (M_im v), (M_al v), (M_thrown v)))) else none)) else none) else none) else none) else (if x4 = (18 : Int32) then (if ix x2 80 then (if ix x2 80 then (if ix (x6 + ((M_codeB (M_cd v)) x2.toNatClampNeg)) 314 then (if ix x2 80 then (if ix (x6 + ((M_codeC (M_cd v)) x2.toNatClampNeg)) 314 then (bd (f_M_added ((M_s (M_rn v)) ((x6 + ((M_codeB (M_cd v)) x2.toNatClampNeg))).toNatClampNeg) ((M_s (M_rn v)) ((x6 + ((M_codeC (M_cd v)) x2.toNatClampNeg))).toNatClampNeg)) fun (r122 : Int32) => (if ix (x6 + ((M_codeA (M_cd v)) x2.toNatClampNeg)) 314 then (nm (upd (M_s (M_rn v)) ((x6 + ((M_codeA (M_cd v)) x2.toNatClampNeg))).toNatClampNeg r122) fun (f125 : Nat → Int32) => (J14 (0 : Int32) ((M_tp v), (M_rd v), (M_lf v), (M_cd v), (f125, (M_spanNow (M_rn v)), (M_sizeNow (M_rn v)), x11), (M_ex v), (M_im v), (M_al v), (M_thrown v)))) else none)) else none) else none) else none) else none) else none) else (if x4 = (19 : Int32) then (if ix x2 80 then (if ix x2 80 then (if ix (x6 + ((M_codeB (M_cd v)) x2.toNatClampNeg)) 314 then (if ix x2 80 then (if ix (x6 + ((M_codeC (M_cd v)) x2.toNatClampNeg)) 314 then (bd (f_M_multiplied ((M_s (M_rn v)) ((x6 + ((M_codeB (M_cd v)) x2.toNatClampNeg))).toNatClampNeg) ((M_s (M_rn v)) ((x6 + ((M_codeC (M_cd v)) x2.toNatClampNeg))).toNatClampNeg)) fun (r132 : Int32) => (if ix (x6 + ((M_codeA (M_cd v)) x2.toNatClampNeg)) 314 then (nm (upd (M_s (M_rn v)) ((x6 + ((M_codeA (M_cd v)) x2.toNatClampNeg))).toNatClampNeg r132) fun (f135 : Nat → Int32) => (J14 (0 : Int32) ((M_tp v), (M_rd v), (M_lf v), (M_cd v), (f135, (M_spanNow (M_rn v)), (M_sizeNow (M_rn v)), x11), (M_ex v), (M_im v), (M_al v), (M_thrown v)))) else none)) else none) else none) else none) else none) else none) else (if x4 = (20 : Int32) then (if ix x2 80 then (nm ((M_codeTo (M_cd v)) x2.toNatClampNeg) fun (x138 : Int32) => (J14 (0 : Int32) ((M_tp v), (M_rd v), (M_lf v), (M_cd v), ((M_s (M_rn v)), (M_spanNow (M_rn v)), (M_sizeNow (M_rn v)), x138), (M_ex v), (M_im v), (M_al v), (M_thrown v)))) else none) else (if ix x2 80 then (if ix (x5 + ((M_codeA (M_cd v)) x2.toNatClampNeg)) 314 then (if ix x2 80 then (nm (x6 + (((M_codeA (M_cd v)) x2.toNatClampNeg) - ((M_codeA (M_cd v)) x2.toNatClampNeg) / (4 : Int32) * (4 : Int32))) fun (x142 : Int32) => (if ix x142 314 then (if ix x2 80 then (nm (x6 + (((M_codeB (M_cd v)) x2.toNatClampNeg) - ((M_codeB (M_cd v)) x2.toNatClampNeg) / (4 : Int32) * (4 : Int32))) fun (x145 : Int32) => (if ix x145 314 then (bd (f_M_goesBy x4 ((M_s (M_rn v)) ((x5 + ((M_codeA (M_cd v)) x2.toNatClampNeg))).toNatClampNeg) x10 ((M_s (M_rn v)) x142.toNatClampNeg) ((M_s (M_rn v)) x145.toNatClampNeg)) fun (r147 : Int32) => (bd2 (f_M_branches ((M_tp v), (M_rd v), (M_lf v), (M_cd v), ((M_s (M_rn v)), (M_spanNow (M_rn v)), (M_sizeNow (M_rn v)), x11), (M_ex v), (M_im v), (M_al v), (M_thrown v)) a1 x2 r147) fun (r149 : Int32) (v150 : T_M) => (J14 r149 v150))) else none)) else none) else none)) else none) else none) else none)))))))))))))))))) else none)) else none)))) else none)) else none)
abbrev rm_M_stepped : Room := { frames := 4, cells := 0, slots := 0, locals := 96 }
set_option maxRecDepth 100000 in
set_option maxHeartbeats 4000000 in
theorem m_M_stepped (l : Launch) (D : va_G) (K : Nat → ClassId) (q : Nat → Nat) (v : T_M) (a1 : Int32) {r_ : Int32} {o_v : T_M} (hf : f_M_stepped v a1 = some (r_, o_v)) : MI l yX10_stepped cX10_stepped 8 (some .int) rm_M_stepped D K [.ref (q 0), .int a1] (cl_M K q v) r_ (cl_M K q o_v) := by
  refine MI_of (loc0 := [(0, .ref (q 0)), (1, .int a1)]) (by decide +kernel) rfl (Nat.le_of_ble_eq_true rfl) ?_
  intro p e s m args below meth c A cx
  unfold f_M_stepped at hf
  refine r_ws (ws' := [((q 0), ob 9 [.int (M_thrown v), .ref (q 1), .int (M_taped (M_tp v)), .ref (q 2), .ref (q 3), .ref (q 4), .ref (q 5), .ref (q 6), .ref (q 7), .ref (q 8), .ref (q 9), .ref (q 10), .ref (q 11), .ref (q 12), .ref (q 13), .ref (q 14), .int (M_lines (M_rd v)), .int (M_size (M_rd v)), .int (M_at (M_rd v)), .int (M_place (M_rd v)), .int (M_sort (M_rd v)), .int (M_value (M_rd v)), .int (M_fault (M_rd v)), .int (M_faultPlace (M_rd v)), .int (M_lastFault (M_lf v)), .int (M_lastPlace (M_lf v)), .ref (q 15), .ref (q 16), .ref (q 17), .ref (q 18), .int (M_hasImage (M_im v)), .int (M_spanNow (M_rn v)), .ref (q 19), .int (M_placeThen (M_rn v)), .int (M_alonePlace (M_al v)), .int (M_aloneSteps (M_al v)), .int (M_aloneOut (M_al v)), .ref (q 20), .ref (q 21), .ref (q 22), .ref (q 23), .int (M_shotAlarm (M_ex v)), .int (M_drawn (M_ex v))]), ((q 1), aI K 700 (M_tape (M_tp v))), ((q 2), aI K 20 (M_number (M_cd v))), ((q 3), aZ K 5 (M_isTold (M_rd v))), ((q 4), aI K 80 (M_codeSort (M_cd v))), ((q 5), aI K 80 (M_codeA (M_cd v))), ((q 6), aI K 80 (M_codeB (M_cd v))), ((q 7), aI K 80 (M_codeC (M_cd v))), ((q 8), aI K 80 (M_codeName (M_cd v))), ((q 9), aI K 80 (M_codePlace (M_cd v))), ((q 10), aI K 80 (M_codeTo (M_cd v))), ((q 11), aI K 280 (M_labelName (M_cd v))), ((q 12), aI K 280 (M_labelAt (M_cd v))), ((q 13), aI K 64 (M_data (M_cd v))), ((q 14), aZ K 32 (M_hasData (M_rd v))), ((q 15), aI K 314 (M_s (M_rn v))), ((q 16), aI K 314 (M_aside (M_ex v))), ((q 17), aI K 314 (M_further (M_ex v))), ((q 18), aI K 314 (M_image (M_im v))), ((q 19), aI K 3 (M_sizeNow (M_rn v))), ((q 20), aI K 8 (M_aloneRegister (M_al v))), ((q 21), aI K 4 (M_aloneReal (M_al v))), ((q 22), aI K 32 (M_aloneMemory (M_al v))), ((q 23), aI K 999 (M_aloneOutput (M_al v)))]) rfl ?_
  refine r_aload_n (pc := 0) cx dX10_stepped_0 0 rfl ?_
  refine r_get (pc := 1) cx cf_X10 0 26 rfl (by decide) rfl wd_1342 dX10_stepped_1 ?_
  refine r_iconst (pc := 4) cx dX10_stepped_4 ic_0 ?_
  refine r_iload_n (pc := 5) cx dX10_stepped_5 1 rfl ?_
  refine r_iadd (pc := 6) cx dX10_stepped_6 ?_
  obtain ⟨h1, hf⟩ := chk_of hf
  refine r_iald (pc := 7) cx 15 rfl h1 dX10_stepped_7 ?_
  obtain ⟨x2, ex2, hf⟩ := nm_of hf
  refine r_nm ex2 ?_
  refine r_istore_n (pc := 8) (loc' := [(2, .int x2), (0, .ref (q 0)), (1, .int a1)]) cx dX10_stepped_8 rfl (by decide) rfl ?_
  refine r_aload_n (pc := 9) cx dX10_stepped_9 1 rfl ?_
  refine r_get (pc := 10) cx cf_X10 0 5 rfl (by decide) rfl wd_1321 dX10_stepped_10 ?_
  refine r_iload_n (pc := 13) cx dX10_stepped_13 0 rfl ?_
  obtain ⟨h3, hf⟩ := chk_of hf
  refine r_iald (pc := 14) cx 4 rfl h3 dX10_stepped_14 ?_
  obtain ⟨x4, ex4, hf⟩ := nm_of hf
  refine r_nm ex4 ?_
  refine r_istore_n (pc := 15) (loc' := [(3, .int x4), (2, .int x2), (0, .ref (q 0)), (1, .int a1)]) cx dX10_stepped_15 rfl (by decide) rfl ?_
  refine r_iconst (pc := 16) cx dX10_stepped_16 ic_4 ?_
  refine r_bipush (pc := 17) cx dX10_stepped_17 bp_8 ?_
  refine r_iload_n (pc := 19) cx dX10_stepped_19 3 rfl ?_
  refine r_imul (pc := 20) cx dX10_stepped_20 ?_
  refine r_iadd (pc := 21) cx dX10_stepped_21 ?_
  obtain ⟨x5, ex5, hf⟩ := nm_of hf
  refine r_nm ex5 ?_
  refine r_istore (pc := 22) (loc' := [(4, .int x5), (3, .int x4), (2, .int x2), (0, .ref (q 0)), (1, .int a1)]) cx dX10_stepped_22 (by decide) rfl ?_
  refine r_bipush (pc := 24) cx dX10_stepped_24 bp_20 ?_
  refine r_iconst (pc := 26) cx dX10_stepped_26 ic_4 ?_
  refine r_iload_n (pc := 27) cx dX10_stepped_27 4 rfl ?_
  refine r_imul (pc := 28) cx dX10_stepped_28 ?_
  refine r_iadd (pc := 29) cx dX10_stepped_29 ?_
  obtain ⟨x6, ex6, hf⟩ := nm_of hf
  refine r_nm ex6 ?_
  refine r_istore (pc := 30) (loc' := [(5, .int x6), (4, .int x5), (3, .int x4), (2, .int x2), (0, .ref (q 0)), (1, .int a1)]) cx dX10_stepped_30 (by decide) rfl ?_
  refine r_aload_n (pc := 32) cx dX10_stepped_32 4 rfl ?_
  refine r_get (pc := 33) cx cf_X10 0 26 rfl (by decide) rfl wd_1342 dX10_stepped_33 ?_
  refine r_iload (pc := 36) cx dX10_stepped_36 1 rfl ?_
  refine r_aload_n (pc := 38) cx dX10_stepped_38 4 rfl ?_
  refine r_get (pc := 39) cx cf_X10 0 7 rfl (by decide) rfl wd_1323 dX10_stepped_39 ?_
  refine r_iload_n (pc := 42) cx dX10_stepped_42 3 rfl ?_
  obtain ⟨h7, hf⟩ := chk_of hf
  refine r_iald (pc := 43) cx 6 rfl h7 dX10_stepped_43 ?_
  refine r_bipush (pc := 44) cx dX10_stepped_44 bp_8 ?_
  refine r_irem (pc := 46) cx dX10_stepped_46 (by decide) ?_
  refine r_iadd (pc := 47) cx dX10_stepped_47 ?_
  obtain ⟨x8, ex8, hf⟩ := nm_of hf
  refine r_nm ex8 ?_
  obtain ⟨h9, hf⟩ := chk_of hf
  refine r_iald (pc := 48) cx 15 rfl h9 dX10_stepped_48 ?_
  obtain ⟨x10, ex10, hf⟩ := nm_of hf
  refine r_nm ex10 ?_
  refine r_istore (pc := 49) (loc' := [(6, .int x10), (5, .int x6), (4, .int x5), (3, .int x4), (2, .int x2), (0, .ref (q 0)), (1, .int a1)]) cx dX10_stepped_49 (by decide) rfl ?_
  refine r_aload_n (pc := 51) cx dX10_stepped_51 5 rfl ?_
  refine r_iload_n (pc := 52) cx dX10_stepped_52 4 rfl ?_
  refine r_iconst (pc := 53) cx dX10_stepped_53 ic_1 ?_
  refine r_iadd (pc := 54) cx dX10_stepped_54 ?_
  refine r_bipush (pc := 55) cx dX10_stepped_55 bp_64 ?_
  refine r_irem (pc := 57) cx dX10_stepped_57 (by decide) ?_
  obtain ⟨x11, ex11, hf⟩ := nm_of hf
  refine r_nm ex11 ?_
  refine r_putI (pc := 58) (ws' := [((q 0), ob 9 [.int (M_thrown v), .ref (q 1), .int (M_taped (M_tp v)), .ref (q 2), .ref (q 3), .ref (q 4), .ref (q 5), .ref (q 6), .ref (q 7), .ref (q 8), .ref (q 9), .ref (q 10), .ref (q 11), .ref (q 12), .ref (q 13), .ref (q 14), .int (M_lines (M_rd v)), .int (M_size (M_rd v)), .int (M_at (M_rd v)), .int (M_place (M_rd v)), .int (M_sort (M_rd v)), .int (M_value (M_rd v)), .int (M_fault (M_rd v)), .int (M_faultPlace (M_rd v)), .int (M_lastFault (M_lf v)), .int (M_lastPlace (M_lf v)), .ref (q 15), .ref (q 16), .ref (q 17), .ref (q 18), .int (M_hasImage (M_im v)), .int (M_spanNow (M_rn v)), .ref (q 19), .int x11, .int (M_alonePlace (M_al v)), .int (M_aloneSteps (M_al v)), .int (M_aloneOut (M_al v)), .ref (q 20), .ref (q 21), .ref (q 22), .ref (q 23), .int (M_shotAlarm (M_ex v)), .int (M_drawn (M_ex v))]), ((q 1), aI K 700 (M_tape (M_tp v))), ((q 2), aI K 20 (M_number (M_cd v))), ((q 3), aZ K 5 (M_isTold (M_rd v))), ((q 4), aI K 80 (M_codeSort (M_cd v))), ((q 5), aI K 80 (M_codeA (M_cd v))), ((q 6), aI K 80 (M_codeB (M_cd v))), ((q 7), aI K 80 (M_codeC (M_cd v))), ((q 8), aI K 80 (M_codeName (M_cd v))), ((q 9), aI K 80 (M_codePlace (M_cd v))), ((q 10), aI K 80 (M_codeTo (M_cd v))), ((q 11), aI K 280 (M_labelName (M_cd v))), ((q 12), aI K 280 (M_labelAt (M_cd v))), ((q 13), aI K 64 (M_data (M_cd v))), ((q 14), aZ K 32 (M_hasData (M_rd v))), ((q 15), aI K 314 (M_s (M_rn v))), ((q 16), aI K 314 (M_aside (M_ex v))), ((q 17), aI K 314 (M_further (M_ex v))), ((q 18), aI K 314 (M_image (M_im v))), ((q 19), aI K 3 (M_sizeNow (M_rn v))), ((q 20), aI K 8 (M_aloneRegister (M_al v))), ((q 21), aI K 4 (M_aloneReal (M_al v))), ((q 22), aI K 32 (M_aloneMemory (M_al v))), ((q 23), aI K 999 (M_aloneOutput (M_al v)))]) cx cf_X10 0 33 rfl (by decide) (Nat.le_of_ble_eq_true rfl) rfl pfd_I wd_1349 dX10_stepped_58 rfl ?_
  refine r_iconst (pc := 61) cx dX10_stepped_61 ic_0 ?_
  refine r_istore (pc := 62) (loc' := [(7, .int (0 : Int32)), (6, .int x10), (5, .int x6), (4, .int x5), (3, .int x4), (2, .int x2), (0, .ref (q 0)), (1, .int a1)]) cx dX10_stepped_62 (by decide) rfl ?_
  refine r_iload_n (pc := 64) cx dX10_stepped_64 4 rfl ?_
  obtain ⟨J14, eJ14, hf⟩ := nm_of hf
  have hJ14 : ∀ (x12 : Int32) (v13 : T_M), J14 x12 v13 = some (r_, o_v) → WW p l e rm_M_stepped s m args below meth c D A 8 0 0 (MQ below (QI D K A r_ (cl_M K q o_v)) args s 0 0 A) ([((q 0), ob 9 [.int (M_thrown v13), .ref (q 1), .int (M_taped (M_tp v13)), .ref (q 2), .ref (q 3), .ref (q 4), .ref (q 5), .ref (q 6), .ref (q 7), .ref (q 8), .ref (q 9), .ref (q 10), .ref (q 11), .ref (q 12), .ref (q 13), .ref (q 14), .int (M_lines (M_rd v13)), .int (M_size (M_rd v13)), .int (M_at (M_rd v13)), .int (M_place (M_rd v13)), .int (M_sort (M_rd v13)), .int (M_value (M_rd v13)), .int (M_fault (M_rd v13)), .int (M_faultPlace (M_rd v13)), .int (M_lastFault (M_lf v13)), .int (M_lastPlace (M_lf v13)), .ref (q 15), .ref (q 16), .ref (q 17), .ref (q 18), .int (M_hasImage (M_im v13)), .int (M_spanNow (M_rn v13)), .ref (q 19), .int (M_placeThen (M_rn v13)), .int (M_alonePlace (M_al v13)), .int (M_aloneSteps (M_al v13)), .int (M_aloneOut (M_al v13)), .ref (q 20), .ref (q 21), .ref (q 22), .ref (q 23), .int (M_shotAlarm (M_ex v13)), .int (M_drawn (M_ex v13))]), ((q 1), aI K 700 (M_tape (M_tp v13))), ((q 2), aI K 20 (M_number (M_cd v13))), ((q 3), aZ K 5 (M_isTold (M_rd v13))), ((q 4), aI K 80 (M_codeSort (M_cd v13))), ((q 5), aI K 80 (M_codeA (M_cd v13))), ((q 6), aI K 80 (M_codeB (M_cd v13))), ((q 7), aI K 80 (M_codeC (M_cd v13))), ((q 8), aI K 80 (M_codeName (M_cd v13))), ((q 9), aI K 80 (M_codePlace (M_cd v13))), ((q 10), aI K 80 (M_codeTo (M_cd v13))), ((q 11), aI K 280 (M_labelName (M_cd v13))), ((q 12), aI K 280 (M_labelAt (M_cd v13))), ((q 13), aI K 64 (M_data (M_cd v13))), ((q 14), aZ K 32 (M_hasData (M_rd v13))), ((q 15), aI K 314 (M_s (M_rn v13))), ((q 16), aI K 314 (M_aside (M_ex v13))), ((q 17), aI K 314 (M_further (M_ex v13))), ((q 18), aI K 314 (M_image (M_im v13))), ((q 19), aI K 3 (M_sizeNow (M_rn v13))), ((q 20), aI K 8 (M_aloneRegister (M_al v13))), ((q 21), aI K 4 (M_aloneReal (M_al v13))), ((q 22), aI K 32 (M_aloneMemory (M_al v13))), ((q 23), aI K 999 (M_aloneOutput (M_al v13)))]) ([(0, .ref (q 0)), (1, .int a1), (7, .int x12)]) ([]) 686 := by
    intro x12 v13 hf
    rw [eJ14] at hf
    refine r_aload_n (pc := 686) cx dX10_stepped_686 0 rfl ?_
    refine r_get (pc := 687) cx cf_X10 0 26 rfl (by decide) rfl wd_1342 dX10_stepped_687 ?_
    refine r_iconst (pc := 690) cx dX10_stepped_690 ic_0 ?_
    refine r_iload_n (pc := 691) cx dX10_stepped_691 1 rfl ?_
    refine r_iadd (pc := 692) cx dX10_stepped_692 ?_
    refine r_aload_n (pc := 693) cx dX10_stepped_693 0 rfl ?_
    refine r_get (pc := 694) cx cf_X10 0 33 rfl (by decide) rfl wd_1349 dX10_stepped_694 ?_
    obtain ⟨x15, ex15, hf⟩ := nm_of hf
    refine r_nm ex15 ?_
    obtain ⟨h16, hf⟩ := chk_of hf
    obtain ⟨f17, ef17, hf⟩ := nm_of hf
    refine r_iast (pc := 697) (ws' := [((q 0), ob 9 [.int (M_thrown v13), .ref (q 1), .int (M_taped (M_tp v13)), .ref (q 2), .ref (q 3), .ref (q 4), .ref (q 5), .ref (q 6), .ref (q 7), .ref (q 8), .ref (q 9), .ref (q 10), .ref (q 11), .ref (q 12), .ref (q 13), .ref (q 14), .int (M_lines (M_rd v13)), .int (M_size (M_rd v13)), .int (M_at (M_rd v13)), .int (M_place (M_rd v13)), .int (M_sort (M_rd v13)), .int (M_value (M_rd v13)), .int (M_fault (M_rd v13)), .int (M_faultPlace (M_rd v13)), .int (M_lastFault (M_lf v13)), .int (M_lastPlace (M_lf v13)), .ref (q 15), .ref (q 16), .ref (q 17), .ref (q 18), .int (M_hasImage (M_im v13)), .int (M_spanNow (M_rn v13)), .ref (q 19), .int (M_placeThen (M_rn v13)), .int (M_alonePlace (M_al v13)), .int (M_aloneSteps (M_al v13)), .int (M_aloneOut (M_al v13)), .ref (q 20), .ref (q 21), .ref (q 22), .ref (q 23), .int (M_shotAlarm (M_ex v13)), .int (M_drawn (M_ex v13))]), ((q 1), aI K 700 (M_tape (M_tp v13))), ((q 2), aI K 20 (M_number (M_cd v13))), ((q 3), aZ K 5 (M_isTold (M_rd v13))), ((q 4), aI K 80 (M_codeSort (M_cd v13))), ((q 5), aI K 80 (M_codeA (M_cd v13))), ((q 6), aI K 80 (M_codeB (M_cd v13))), ((q 7), aI K 80 (M_codeC (M_cd v13))), ((q 8), aI K 80 (M_codeName (M_cd v13))), ((q 9), aI K 80 (M_codePlace (M_cd v13))), ((q 10), aI K 80 (M_codeTo (M_cd v13))), ((q 11), aI K 280 (M_labelName (M_cd v13))), ((q 12), aI K 280 (M_labelAt (M_cd v13))), ((q 13), aI K 64 (M_data (M_cd v13))), ((q 14), aZ K 32 (M_hasData (M_rd v13))), ((q 15), aI K 314 f17), ((q 16), aI K 314 (M_aside (M_ex v13))), ((q 17), aI K 314 (M_further (M_ex v13))), ((q 18), aI K 314 (M_image (M_im v13))), ((q 19), aI K 3 (M_sizeNow (M_rn v13))), ((q 20), aI K 8 (M_aloneRegister (M_al v13))), ((q 21), aI K 4 (M_aloneReal (M_al v13))), ((q 22), aI K 32 (M_aloneMemory (M_al v13))), ((q 23), aI K 999 (M_aloneOutput (M_al v13)))]) cx 15 rfl h16 dX10_stepped_697 ef17 rfl ?_
    refine r_aload_n (pc := 698) cx dX10_stepped_698 0 rfl ?_
    refine r_get (pc := 699) cx cf_X10 0 26 rfl (by decide) rfl wd_1342 dX10_stepped_699 ?_
    refine r_iconst (pc := 702) cx dX10_stepped_702 ic_2 ?_
    refine r_iload_n (pc := 703) cx dX10_stepped_703 1 rfl ?_
    refine r_iadd (pc := 704) cx dX10_stepped_704 ?_
    obtain ⟨x18, ex18, hf⟩ := nm_of hf
    refine r_nm ex18 ?_
    refine r_dup2 (pc := 705) cx dX10_stepped_705 rfl rfl ?_
    obtain ⟨h19, hf⟩ := chk_of hf
    refine r_iald (pc := 706) cx 15 rfl h19 dX10_stepped_706 ?_
    refine r_iconst (pc := 707) cx dX10_stepped_707 ic_1 ?_
    refine r_iadd (pc := 708) cx dX10_stepped_708 ?_
    obtain ⟨x20, ex20, hf⟩ := nm_of hf
    refine r_nm ex20 ?_
    obtain ⟨h21, hf⟩ := chk_of hf
    obtain ⟨f22, ef22, hf⟩ := nm_of hf
    refine r_iast (pc := 709) (ws' := [((q 0), ob 9 [.int (M_thrown v13), .ref (q 1), .int (M_taped (M_tp v13)), .ref (q 2), .ref (q 3), .ref (q 4), .ref (q 5), .ref (q 6), .ref (q 7), .ref (q 8), .ref (q 9), .ref (q 10), .ref (q 11), .ref (q 12), .ref (q 13), .ref (q 14), .int (M_lines (M_rd v13)), .int (M_size (M_rd v13)), .int (M_at (M_rd v13)), .int (M_place (M_rd v13)), .int (M_sort (M_rd v13)), .int (M_value (M_rd v13)), .int (M_fault (M_rd v13)), .int (M_faultPlace (M_rd v13)), .int (M_lastFault (M_lf v13)), .int (M_lastPlace (M_lf v13)), .ref (q 15), .ref (q 16), .ref (q 17), .ref (q 18), .int (M_hasImage (M_im v13)), .int (M_spanNow (M_rn v13)), .ref (q 19), .int (M_placeThen (M_rn v13)), .int (M_alonePlace (M_al v13)), .int (M_aloneSteps (M_al v13)), .int (M_aloneOut (M_al v13)), .ref (q 20), .ref (q 21), .ref (q 22), .ref (q 23), .int (M_shotAlarm (M_ex v13)), .int (M_drawn (M_ex v13))]), ((q 1), aI K 700 (M_tape (M_tp v13))), ((q 2), aI K 20 (M_number (M_cd v13))), ((q 3), aZ K 5 (M_isTold (M_rd v13))), ((q 4), aI K 80 (M_codeSort (M_cd v13))), ((q 5), aI K 80 (M_codeA (M_cd v13))), ((q 6), aI K 80 (M_codeB (M_cd v13))), ((q 7), aI K 80 (M_codeC (M_cd v13))), ((q 8), aI K 80 (M_codeName (M_cd v13))), ((q 9), aI K 80 (M_codePlace (M_cd v13))), ((q 10), aI K 80 (M_codeTo (M_cd v13))), ((q 11), aI K 280 (M_labelName (M_cd v13))), ((q 12), aI K 280 (M_labelAt (M_cd v13))), ((q 13), aI K 64 (M_data (M_cd v13))), ((q 14), aZ K 32 (M_hasData (M_rd v13))), ((q 15), aI K 314 f22), ((q 16), aI K 314 (M_aside (M_ex v13))), ((q 17), aI K 314 (M_further (M_ex v13))), ((q 18), aI K 314 (M_image (M_im v13))), ((q 19), aI K 3 (M_sizeNow (M_rn v13))), ((q 20), aI K 8 (M_aloneRegister (M_al v13))), ((q 21), aI K 4 (M_aloneReal (M_al v13))), ((q 22), aI K 32 (M_aloneMemory (M_al v13))), ((q 23), aI K 999 (M_aloneOutput (M_al v13)))]) cx 15 rfl h21 dX10_stepped_709 ef22 rfl ?_
    refine r_aload_n (pc := 710) cx dX10_stepped_710 0 rfl ?_
    obtain ⟨v23, hc24, hf⟩ := bd_of hf
    refine r_Vv (pc := 711) (ws' := [((q 0), ob 9 [.int (M_thrown v23), .ref (q 1), .int (M_taped (M_tp v23)), .ref (q 2), .ref (q 3), .ref (q 4), .ref (q 5), .ref (q 6), .ref (q 7), .ref (q 8), .ref (q 9), .ref (q 10), .ref (q 11), .ref (q 12), .ref (q 13), .ref (q 14), .int (M_lines (M_rd v23)), .int (M_size (M_rd v23)), .int (M_at (M_rd v23)), .int (M_place (M_rd v23)), .int (M_sort (M_rd v23)), .int (M_value (M_rd v23)), .int (M_fault (M_rd v23)), .int (M_faultPlace (M_rd v23)), .int (M_lastFault (M_lf v23)), .int (M_lastPlace (M_lf v23)), .ref (q 15), .ref (q 16), .ref (q 17), .ref (q 18), .int (M_hasImage (M_im v23)), .int (M_spanNow (M_rn v23)), .ref (q 19), .int (M_placeThen (M_rn v23)), .int (M_alonePlace (M_al v23)), .int (M_aloneSteps (M_al v23)), .int (M_aloneOut (M_al v23)), .ref (q 20), .ref (q 21), .ref (q 22), .ref (q 23), .int (M_shotAlarm (M_ex v23)), .int (M_drawn (M_ex v23))]), ((q 1), aI K 700 (M_tape (M_tp v23))), ((q 2), aI K 20 (M_number (M_cd v23))), ((q 3), aZ K 5 (M_isTold (M_rd v23))), ((q 4), aI K 80 (M_codeSort (M_cd v23))), ((q 5), aI K 80 (M_codeA (M_cd v23))), ((q 6), aI K 80 (M_codeB (M_cd v23))), ((q 7), aI K 80 (M_codeC (M_cd v23))), ((q 8), aI K 80 (M_codeName (M_cd v23))), ((q 9), aI K 80 (M_codePlace (M_cd v23))), ((q 10), aI K 80 (M_codeTo (M_cd v23))), ((q 11), aI K 280 (M_labelName (M_cd v23))), ((q 12), aI K 280 (M_labelAt (M_cd v23))), ((q 13), aI K 64 (M_data (M_cd v23))), ((q 14), aZ K 32 (M_hasData (M_rd v23))), ((q 15), aI K 314 (M_s (M_rn v23))), ((q 16), aI K 314 (M_aside (M_ex v23))), ((q 17), aI K 314 (M_further (M_ex v23))), ((q 18), aI K 314 (M_image (M_im v23))), ((q 19), aI K 3 (M_sizeNow (M_rn v23))), ((q 20), aI K 8 (M_aloneRegister (M_al v23))), ((q 21), aI K 4 (M_aloneReal (M_al v23))), ((q 22), aI K 32 (M_aloneMemory (M_al v23))), ((q 23), aI K 999 (M_aloneOutput (M_al v23)))]) (nn := 24) cx [] [] (m_M_sticks l D K q ((M_tp v13), (M_rd v13), (M_lf v13), (M_cd v13), (f22, (M_spanNow (M_rn v13)), (M_sizeNow (M_rn v13)), (M_placeThen (M_rn v13))), (M_ex v13), (M_im v13), (M_al v13), (M_thrown v13)) hc24) yv_X10_sticks wd_1667 ⟨rfl, rfl⟩ (by decide) (fr_s (j := 0) rfl rfl rfl (fr_s (j := 1) rfl rfl rfl (fr_s (j := 2) rfl rfl rfl (fr_s (j := 3) rfl rfl rfl (fr_s (j := 4) rfl rfl rfl (fr_s (j := 5) rfl rfl rfl (fr_s (j := 6) rfl rfl rfl (fr_s (j := 7) rfl rfl rfl (fr_s (j := 8) rfl rfl rfl (fr_s (j := 9) rfl rfl rfl (fr_s (j := 10) rfl rfl rfl (fr_s (j := 11) rfl rfl rfl (fr_s (j := 12) rfl rfl rfl (fr_s (j := 13) rfl rfl rfl (fr_s (j := 14) rfl rfl rfl (fr_s (j := 15) rfl rfl rfl (fr_s (j := 16) rfl rfl rfl (fr_s (j := 17) rfl rfl rfl (fr_s (j := 18) rfl rfl rfl (fr_s (j := 19) rfl rfl rfl (fr_s (j := 20) rfl rfl rfl (fr_s (j := 21) rfl rfl rfl (fr_s (j := 22) rfl rfl rfl (fr_s (j := 23) rfl rfl rfl (fr_n))))))))))))))))))))))))) rfl (by decide) 0 rfl rfl rfl (Nat.le_of_ble_eq_true rfl) dX10_stepped_711 ?_
    refine r_iload (pc := 714) cx dX10_stepped_714 2 rfl ?_
    cases hf
    exact r_iret (pc := 716) cx rfl rfl dX10_stepped_716
  by_cases h25 : x4 = (7 : Int32)
  · have hf := ifp h25 hf
    refine r_tin (pc := 65) (tgt := 136) cx (7 : Int32) h25 dX10_stepped_65 (by decide) (by decide) rfl (by decide) ?_
    refine r_aload_n (pc := 136) cx dX10_stepped_136 6 rfl ?_
    refine r_get (pc := 137) cx cf_X10 0 26 rfl (by decide) rfl wd_1342 dX10_stepped_137 ?_
    refine r_iload (pc := 140) cx dX10_stepped_140 3 rfl ?_
    refine r_aload_n (pc := 142) cx dX10_stepped_142 6 rfl ?_
    refine r_get (pc := 143) cx cf_X10 0 6 rfl (by decide) rfl wd_1322 dX10_stepped_143 ?_
    refine r_iload_n (pc := 146) cx dX10_stepped_146 5 rfl ?_
    obtain ⟨h26, hf⟩ := chk_of hf
    refine r_iald (pc := 147) cx 5 rfl h26 dX10_stepped_147 ?_
    refine r_iadd (pc := 148) cx dX10_stepped_148 ?_
    refine r_aload_n (pc := 149) cx dX10_stepped_149 6 rfl ?_
    refine r_get (pc := 150) cx cf_X10 0 7 rfl (by decide) rfl wd_1323 dX10_stepped_150 ?_
    refine r_iload_n (pc := 153) cx dX10_stepped_153 5 rfl ?_
    obtain ⟨h27, hf⟩ := chk_of hf
    refine r_iald (pc := 154) cx 6 rfl h27 dX10_stepped_154 ?_
    obtain ⟨x28, ex28, hf⟩ := nm_of hf
    refine r_nm ex28 ?_
    obtain ⟨h29, hf⟩ := chk_of hf
    obtain ⟨f30, ef30, hf⟩ := nm_of hf
    refine r_iast (pc := 155) (ws' := [((q 0), ob 9 [.int (M_thrown v), .ref (q 1), .int (M_taped (M_tp v)), .ref (q 2), .ref (q 3), .ref (q 4), .ref (q 5), .ref (q 6), .ref (q 7), .ref (q 8), .ref (q 9), .ref (q 10), .ref (q 11), .ref (q 12), .ref (q 13), .ref (q 14), .int (M_lines (M_rd v)), .int (M_size (M_rd v)), .int (M_at (M_rd v)), .int (M_place (M_rd v)), .int (M_sort (M_rd v)), .int (M_value (M_rd v)), .int (M_fault (M_rd v)), .int (M_faultPlace (M_rd v)), .int (M_lastFault (M_lf v)), .int (M_lastPlace (M_lf v)), .ref (q 15), .ref (q 16), .ref (q 17), .ref (q 18), .int (M_hasImage (M_im v)), .int (M_spanNow (M_rn v)), .ref (q 19), .int x11, .int (M_alonePlace (M_al v)), .int (M_aloneSteps (M_al v)), .int (M_aloneOut (M_al v)), .ref (q 20), .ref (q 21), .ref (q 22), .ref (q 23), .int (M_shotAlarm (M_ex v)), .int (M_drawn (M_ex v))]), ((q 1), aI K 700 (M_tape (M_tp v))), ((q 2), aI K 20 (M_number (M_cd v))), ((q 3), aZ K 5 (M_isTold (M_rd v))), ((q 4), aI K 80 (M_codeSort (M_cd v))), ((q 5), aI K 80 (M_codeA (M_cd v))), ((q 6), aI K 80 (M_codeB (M_cd v))), ((q 7), aI K 80 (M_codeC (M_cd v))), ((q 8), aI K 80 (M_codeName (M_cd v))), ((q 9), aI K 80 (M_codePlace (M_cd v))), ((q 10), aI K 80 (M_codeTo (M_cd v))), ((q 11), aI K 280 (M_labelName (M_cd v))), ((q 12), aI K 280 (M_labelAt (M_cd v))), ((q 13), aI K 64 (M_data (M_cd v))), ((q 14), aZ K 32 (M_hasData (M_rd v))), ((q 15), aI K 314 f30), ((q 16), aI K 314 (M_aside (M_ex v))), ((q 17), aI K 314 (M_further (M_ex v))), ((q 18), aI K 314 (M_image (M_im v))), ((q 19), aI K 3 (M_sizeNow (M_rn v))), ((q 20), aI K 8 (M_aloneRegister (M_al v))), ((q 21), aI K 4 (M_aloneReal (M_al v))), ((q 22), aI K 32 (M_aloneMemory (M_al v))), ((q 23), aI K 999 (M_aloneOutput (M_al v)))]) cx 15 rfl h29 dX10_stepped_155 ef30 rfl ?_
    refine r_goto (pc := 156) (tgt := 686) cx dX10_stepped_156 (by decide) ?_
    refine r_loc (loc' := [(0, .ref (q 0)), (1, .int a1), (7, .int (0 : Int32))]) [6, 7, 0] rfl ?_
    exact hJ14 _ _ hf
  · have hf := ifn h25 hf
    by_cases h31 : x4 = (8 : Int32)
    · have hf := ifp h31 hf
      refine r_tin (pc := 65) (tgt := 159) cx (8 : Int32) h31 dX10_stepped_65 (by decide) (by decide) rfl (by decide) ?_
      refine r_aload_n (pc := 159) cx dX10_stepped_159 6 rfl ?_
      refine r_get (pc := 160) cx cf_X10 0 26 rfl (by decide) rfl wd_1342 dX10_stepped_160 ?_
      refine r_iload (pc := 163) cx dX10_stepped_163 3 rfl ?_
      refine r_aload_n (pc := 165) cx dX10_stepped_165 6 rfl ?_
      refine r_get (pc := 166) cx cf_X10 0 6 rfl (by decide) rfl wd_1322 dX10_stepped_166 ?_
      refine r_iload_n (pc := 169) cx dX10_stepped_169 5 rfl ?_
      obtain ⟨h32, hf⟩ := chk_of hf
      refine r_iald (pc := 170) cx 5 rfl h32 dX10_stepped_170 ?_
      refine r_iadd (pc := 171) cx dX10_stepped_171 ?_
      refine r_iload (pc := 172) cx dX10_stepped_172 1 rfl ?_
      refine r_aload_n (pc := 174) cx dX10_stepped_174 6 rfl ?_
      refine r_get (pc := 175) cx cf_X10 0 26 rfl (by decide) rfl wd_1342 dX10_stepped_175 ?_
      refine r_iload (pc := 178) cx dX10_stepped_178 3 rfl ?_
      refine r_aload_n (pc := 180) cx dX10_stepped_180 6 rfl ?_
      refine r_get (pc := 181) cx cf_X10 0 8 rfl (by decide) rfl wd_1324 dX10_stepped_181 ?_
      refine r_iload_n (pc := 184) cx dX10_stepped_184 5 rfl ?_
      obtain ⟨h33, hf⟩ := chk_of hf
      refine r_iald (pc := 185) cx 7 rfl h33 dX10_stepped_185 ?_
      refine r_iadd (pc := 186) cx dX10_stepped_186 ?_
      obtain ⟨h34, hf⟩ := chk_of hf
      refine r_iald (pc := 187) cx 15 rfl h34 dX10_stepped_187 ?_
      refine r_iadd (pc := 188) cx dX10_stepped_188 ?_
      obtain ⟨x35, ex35, hf⟩ := nm_of hf
      refine r_nm ex35 ?_
      obtain ⟨h36, hf⟩ := chk_of hf
      obtain ⟨f37, ef37, hf⟩ := nm_of hf
      refine r_iast (pc := 189) (ws' := [((q 0), ob 9 [.int (M_thrown v), .ref (q 1), .int (M_taped (M_tp v)), .ref (q 2), .ref (q 3), .ref (q 4), .ref (q 5), .ref (q 6), .ref (q 7), .ref (q 8), .ref (q 9), .ref (q 10), .ref (q 11), .ref (q 12), .ref (q 13), .ref (q 14), .int (M_lines (M_rd v)), .int (M_size (M_rd v)), .int (M_at (M_rd v)), .int (M_place (M_rd v)), .int (M_sort (M_rd v)), .int (M_value (M_rd v)), .int (M_fault (M_rd v)), .int (M_faultPlace (M_rd v)), .int (M_lastFault (M_lf v)), .int (M_lastPlace (M_lf v)), .ref (q 15), .ref (q 16), .ref (q 17), .ref (q 18), .int (M_hasImage (M_im v)), .int (M_spanNow (M_rn v)), .ref (q 19), .int x11, .int (M_alonePlace (M_al v)), .int (M_aloneSteps (M_al v)), .int (M_aloneOut (M_al v)), .ref (q 20), .ref (q 21), .ref (q 22), .ref (q 23), .int (M_shotAlarm (M_ex v)), .int (M_drawn (M_ex v))]), ((q 1), aI K 700 (M_tape (M_tp v))), ((q 2), aI K 20 (M_number (M_cd v))), ((q 3), aZ K 5 (M_isTold (M_rd v))), ((q 4), aI K 80 (M_codeSort (M_cd v))), ((q 5), aI K 80 (M_codeA (M_cd v))), ((q 6), aI K 80 (M_codeB (M_cd v))), ((q 7), aI K 80 (M_codeC (M_cd v))), ((q 8), aI K 80 (M_codeName (M_cd v))), ((q 9), aI K 80 (M_codePlace (M_cd v))), ((q 10), aI K 80 (M_codeTo (M_cd v))), ((q 11), aI K 280 (M_labelName (M_cd v))), ((q 12), aI K 280 (M_labelAt (M_cd v))), ((q 13), aI K 64 (M_data (M_cd v))), ((q 14), aZ K 32 (M_hasData (M_rd v))), ((q 15), aI K 314 f37), ((q 16), aI K 314 (M_aside (M_ex v))), ((q 17), aI K 314 (M_further (M_ex v))), ((q 18), aI K 314 (M_image (M_im v))), ((q 19), aI K 3 (M_sizeNow (M_rn v))), ((q 20), aI K 8 (M_aloneRegister (M_al v))), ((q 21), aI K 4 (M_aloneReal (M_al v))), ((q 22), aI K 32 (M_aloneMemory (M_al v))), ((q 23), aI K 999 (M_aloneOutput (M_al v)))]) cx 15 rfl h36 dX10_stepped_189 ef37 rfl ?_
      refine r_goto (pc := 190) (tgt := 686) cx dX10_stepped_190 (by decide) ?_
      refine r_loc (loc' := [(0, .ref (q 0)), (1, .int a1), (7, .int (0 : Int32))]) [6, 7, 0] rfl ?_
      exact hJ14 _ _ hf
    · have hf := ifn h31 hf
      by_cases h38 : x4 = (9 : Int32)
      · have hf := ifp h38 hf
        refine r_tin (pc := 65) (tgt := 193) cx (9 : Int32) h38 dX10_stepped_65 (by decide) (by decide) rfl (by decide) ?_
        refine r_aload_n (pc := 193) cx dX10_stepped_193 6 rfl ?_
        refine r_get (pc := 194) cx cf_X10 0 26 rfl (by decide) rfl wd_1342 dX10_stepped_194 ?_
        refine r_iload (pc := 197) cx dX10_stepped_197 3 rfl ?_
        refine r_aload_n (pc := 199) cx dX10_stepped_199 6 rfl ?_
        refine r_get (pc := 200) cx cf_X10 0 6 rfl (by decide) rfl wd_1322 dX10_stepped_200 ?_
        refine r_iload_n (pc := 203) cx dX10_stepped_203 5 rfl ?_
        obtain ⟨h39, hf⟩ := chk_of hf
        refine r_iald (pc := 204) cx 5 rfl h39 dX10_stepped_204 ?_
        refine r_iadd (pc := 205) cx dX10_stepped_205 ?_
        refine r_iload (pc := 206) cx dX10_stepped_206 1 rfl ?_
        refine r_aload_n (pc := 208) cx dX10_stepped_208 6 rfl ?_
        refine r_get (pc := 209) cx cf_X10 0 26 rfl (by decide) rfl wd_1342 dX10_stepped_209 ?_
        refine r_iload (pc := 212) cx dX10_stepped_212 3 rfl ?_
        refine r_aload_n (pc := 214) cx dX10_stepped_214 6 rfl ?_
        refine r_get (pc := 215) cx cf_X10 0 8 rfl (by decide) rfl wd_1324 dX10_stepped_215 ?_
        refine r_iload_n (pc := 218) cx dX10_stepped_218 5 rfl ?_
        obtain ⟨h40, hf⟩ := chk_of hf
        refine r_iald (pc := 219) cx 7 rfl h40 dX10_stepped_219 ?_
        refine r_iadd (pc := 220) cx dX10_stepped_220 ?_
        obtain ⟨h41, hf⟩ := chk_of hf
        refine r_iald (pc := 221) cx 15 rfl h41 dX10_stepped_221 ?_
        refine r_isub (pc := 222) cx dX10_stepped_222 ?_
        obtain ⟨x42, ex42, hf⟩ := nm_of hf
        refine r_nm ex42 ?_
        obtain ⟨h43, hf⟩ := chk_of hf
        obtain ⟨f44, ef44, hf⟩ := nm_of hf
        refine r_iast (pc := 223) (ws' := [((q 0), ob 9 [.int (M_thrown v), .ref (q 1), .int (M_taped (M_tp v)), .ref (q 2), .ref (q 3), .ref (q 4), .ref (q 5), .ref (q 6), .ref (q 7), .ref (q 8), .ref (q 9), .ref (q 10), .ref (q 11), .ref (q 12), .ref (q 13), .ref (q 14), .int (M_lines (M_rd v)), .int (M_size (M_rd v)), .int (M_at (M_rd v)), .int (M_place (M_rd v)), .int (M_sort (M_rd v)), .int (M_value (M_rd v)), .int (M_fault (M_rd v)), .int (M_faultPlace (M_rd v)), .int (M_lastFault (M_lf v)), .int (M_lastPlace (M_lf v)), .ref (q 15), .ref (q 16), .ref (q 17), .ref (q 18), .int (M_hasImage (M_im v)), .int (M_spanNow (M_rn v)), .ref (q 19), .int x11, .int (M_alonePlace (M_al v)), .int (M_aloneSteps (M_al v)), .int (M_aloneOut (M_al v)), .ref (q 20), .ref (q 21), .ref (q 22), .ref (q 23), .int (M_shotAlarm (M_ex v)), .int (M_drawn (M_ex v))]), ((q 1), aI K 700 (M_tape (M_tp v))), ((q 2), aI K 20 (M_number (M_cd v))), ((q 3), aZ K 5 (M_isTold (M_rd v))), ((q 4), aI K 80 (M_codeSort (M_cd v))), ((q 5), aI K 80 (M_codeA (M_cd v))), ((q 6), aI K 80 (M_codeB (M_cd v))), ((q 7), aI K 80 (M_codeC (M_cd v))), ((q 8), aI K 80 (M_codeName (M_cd v))), ((q 9), aI K 80 (M_codePlace (M_cd v))), ((q 10), aI K 80 (M_codeTo (M_cd v))), ((q 11), aI K 280 (M_labelName (M_cd v))), ((q 12), aI K 280 (M_labelAt (M_cd v))), ((q 13), aI K 64 (M_data (M_cd v))), ((q 14), aZ K 32 (M_hasData (M_rd v))), ((q 15), aI K 314 f44), ((q 16), aI K 314 (M_aside (M_ex v))), ((q 17), aI K 314 (M_further (M_ex v))), ((q 18), aI K 314 (M_image (M_im v))), ((q 19), aI K 3 (M_sizeNow (M_rn v))), ((q 20), aI K 8 (M_aloneRegister (M_al v))), ((q 21), aI K 4 (M_aloneReal (M_al v))), ((q 22), aI K 32 (M_aloneMemory (M_al v))), ((q 23), aI K 999 (M_aloneOutput (M_al v)))]) cx 15 rfl h43 dX10_stepped_223 ef44 rfl ?_
        refine r_goto (pc := 224) (tgt := 686) cx dX10_stepped_224 (by decide) ?_
        refine r_loc (loc' := [(0, .ref (q 0)), (1, .int a1), (7, .int (0 : Int32))]) [6, 7, 0] rfl ?_
        exact hJ14 _ _ hf
      · have hf := ifn h38 hf
        by_cases h45 : x4 = (10 : Int32)
        · have hf := ifp h45 hf
          refine r_tin (pc := 65) (tgt := 227) cx (10 : Int32) h45 dX10_stepped_65 (by decide) (by decide) rfl (by decide) ?_
          refine r_aload_n (pc := 227) cx dX10_stepped_227 6 rfl ?_
          refine r_get (pc := 228) cx cf_X10 0 26 rfl (by decide) rfl wd_1342 dX10_stepped_228 ?_
          refine r_iload (pc := 231) cx dX10_stepped_231 3 rfl ?_
          refine r_aload_n (pc := 233) cx dX10_stepped_233 6 rfl ?_
          refine r_get (pc := 234) cx cf_X10 0 6 rfl (by decide) rfl wd_1322 dX10_stepped_234 ?_
          refine r_iload_n (pc := 237) cx dX10_stepped_237 5 rfl ?_
          obtain ⟨h46, hf⟩ := chk_of hf
          refine r_iald (pc := 238) cx 5 rfl h46 dX10_stepped_238 ?_
          refine r_iadd (pc := 239) cx dX10_stepped_239 ?_
          refine r_iload (pc := 240) cx dX10_stepped_240 1 rfl ?_
          refine r_aload_n (pc := 242) cx dX10_stepped_242 6 rfl ?_
          refine r_get (pc := 243) cx cf_X10 0 26 rfl (by decide) rfl wd_1342 dX10_stepped_243 ?_
          refine r_iload (pc := 246) cx dX10_stepped_246 3 rfl ?_
          refine r_aload_n (pc := 248) cx dX10_stepped_248 6 rfl ?_
          refine r_get (pc := 249) cx cf_X10 0 8 rfl (by decide) rfl wd_1324 dX10_stepped_249 ?_
          refine r_iload_n (pc := 252) cx dX10_stepped_252 5 rfl ?_
          obtain ⟨h47, hf⟩ := chk_of hf
          refine r_iald (pc := 253) cx 7 rfl h47 dX10_stepped_253 ?_
          refine r_iadd (pc := 254) cx dX10_stepped_254 ?_
          obtain ⟨h48, hf⟩ := chk_of hf
          refine r_iald (pc := 255) cx 15 rfl h48 dX10_stepped_255 ?_
          refine r_imul (pc := 256) cx dX10_stepped_256 ?_
          obtain ⟨x49, ex49, hf⟩ := nm_of hf
          refine r_nm ex49 ?_
          obtain ⟨h50, hf⟩ := chk_of hf
          obtain ⟨f51, ef51, hf⟩ := nm_of hf
          refine r_iast (pc := 257) (ws' := [((q 0), ob 9 [.int (M_thrown v), .ref (q 1), .int (M_taped (M_tp v)), .ref (q 2), .ref (q 3), .ref (q 4), .ref (q 5), .ref (q 6), .ref (q 7), .ref (q 8), .ref (q 9), .ref (q 10), .ref (q 11), .ref (q 12), .ref (q 13), .ref (q 14), .int (M_lines (M_rd v)), .int (M_size (M_rd v)), .int (M_at (M_rd v)), .int (M_place (M_rd v)), .int (M_sort (M_rd v)), .int (M_value (M_rd v)), .int (M_fault (M_rd v)), .int (M_faultPlace (M_rd v)), .int (M_lastFault (M_lf v)), .int (M_lastPlace (M_lf v)), .ref (q 15), .ref (q 16), .ref (q 17), .ref (q 18), .int (M_hasImage (M_im v)), .int (M_spanNow (M_rn v)), .ref (q 19), .int x11, .int (M_alonePlace (M_al v)), .int (M_aloneSteps (M_al v)), .int (M_aloneOut (M_al v)), .ref (q 20), .ref (q 21), .ref (q 22), .ref (q 23), .int (M_shotAlarm (M_ex v)), .int (M_drawn (M_ex v))]), ((q 1), aI K 700 (M_tape (M_tp v))), ((q 2), aI K 20 (M_number (M_cd v))), ((q 3), aZ K 5 (M_isTold (M_rd v))), ((q 4), aI K 80 (M_codeSort (M_cd v))), ((q 5), aI K 80 (M_codeA (M_cd v))), ((q 6), aI K 80 (M_codeB (M_cd v))), ((q 7), aI K 80 (M_codeC (M_cd v))), ((q 8), aI K 80 (M_codeName (M_cd v))), ((q 9), aI K 80 (M_codePlace (M_cd v))), ((q 10), aI K 80 (M_codeTo (M_cd v))), ((q 11), aI K 280 (M_labelName (M_cd v))), ((q 12), aI K 280 (M_labelAt (M_cd v))), ((q 13), aI K 64 (M_data (M_cd v))), ((q 14), aZ K 32 (M_hasData (M_rd v))), ((q 15), aI K 314 f51), ((q 16), aI K 314 (M_aside (M_ex v))), ((q 17), aI K 314 (M_further (M_ex v))), ((q 18), aI K 314 (M_image (M_im v))), ((q 19), aI K 3 (M_sizeNow (M_rn v))), ((q 20), aI K 8 (M_aloneRegister (M_al v))), ((q 21), aI K 4 (M_aloneReal (M_al v))), ((q 22), aI K 32 (M_aloneMemory (M_al v))), ((q 23), aI K 999 (M_aloneOutput (M_al v)))]) cx 15 rfl h50 dX10_stepped_257 ef51 rfl ?_
          refine r_goto (pc := 258) (tgt := 686) cx dX10_stepped_258 (by decide) ?_
          refine r_loc (loc' := [(0, .ref (q 0)), (1, .int a1), (7, .int (0 : Int32))]) [6, 7, 0] rfl ?_
          exact hJ14 _ _ hf
        · have hf := ifn h45 hf
          by_cases h52 : x4 = (11 : Int32)
          · have hf := ifp h52 hf
            refine r_tin (pc := 65) (tgt := 261) cx (11 : Int32) h52 dX10_stepped_65 (by decide) (by decide) rfl (by decide) ?_
            refine r_aload_n (pc := 261) cx dX10_stepped_261 6 rfl ?_
            refine r_get (pc := 262) cx cf_X10 0 26 rfl (by decide) rfl wd_1342 dX10_stepped_262 ?_
            refine r_iload (pc := 265) cx dX10_stepped_265 3 rfl ?_
            refine r_aload_n (pc := 267) cx dX10_stepped_267 6 rfl ?_
            refine r_get (pc := 268) cx cf_X10 0 6 rfl (by decide) rfl wd_1322 dX10_stepped_268 ?_
            refine r_iload_n (pc := 271) cx dX10_stepped_271 5 rfl ?_
            obtain ⟨h53, hf⟩ := chk_of hf
            refine r_iald (pc := 272) cx 5 rfl h53 dX10_stepped_272 ?_
            refine r_iadd (pc := 273) cx dX10_stepped_273 ?_
            refine r_iload (pc := 274) cx dX10_stepped_274 1 rfl ?_
            refine r_aload_n (pc := 276) cx dX10_stepped_276 6 rfl ?_
            refine r_get (pc := 277) cx cf_X10 0 26 rfl (by decide) rfl wd_1342 dX10_stepped_277 ?_
            refine r_iload (pc := 280) cx dX10_stepped_280 3 rfl ?_
            refine r_aload_n (pc := 282) cx dX10_stepped_282 6 rfl ?_
            refine r_get (pc := 283) cx cf_X10 0 8 rfl (by decide) rfl wd_1324 dX10_stepped_283 ?_
            refine r_iload_n (pc := 286) cx dX10_stepped_286 5 rfl ?_
            obtain ⟨h54, hf⟩ := chk_of hf
            refine r_iald (pc := 287) cx 7 rfl h54 dX10_stepped_287 ?_
            refine r_iadd (pc := 288) cx dX10_stepped_288 ?_
            obtain ⟨h55, hf⟩ := chk_of hf
            refine r_iald (pc := 289) cx 15 rfl h55 dX10_stepped_289 ?_
            refine r_ixor (pc := 290) cx dX10_stepped_290 ?_
            obtain ⟨x56, ex56, hf⟩ := nm_of hf
            refine r_nm ex56 ?_
            obtain ⟨h57, hf⟩ := chk_of hf
            obtain ⟨f58, ef58, hf⟩ := nm_of hf
            refine r_iast (pc := 291) (ws' := [((q 0), ob 9 [.int (M_thrown v), .ref (q 1), .int (M_taped (M_tp v)), .ref (q 2), .ref (q 3), .ref (q 4), .ref (q 5), .ref (q 6), .ref (q 7), .ref (q 8), .ref (q 9), .ref (q 10), .ref (q 11), .ref (q 12), .ref (q 13), .ref (q 14), .int (M_lines (M_rd v)), .int (M_size (M_rd v)), .int (M_at (M_rd v)), .int (M_place (M_rd v)), .int (M_sort (M_rd v)), .int (M_value (M_rd v)), .int (M_fault (M_rd v)), .int (M_faultPlace (M_rd v)), .int (M_lastFault (M_lf v)), .int (M_lastPlace (M_lf v)), .ref (q 15), .ref (q 16), .ref (q 17), .ref (q 18), .int (M_hasImage (M_im v)), .int (M_spanNow (M_rn v)), .ref (q 19), .int x11, .int (M_alonePlace (M_al v)), .int (M_aloneSteps (M_al v)), .int (M_aloneOut (M_al v)), .ref (q 20), .ref (q 21), .ref (q 22), .ref (q 23), .int (M_shotAlarm (M_ex v)), .int (M_drawn (M_ex v))]), ((q 1), aI K 700 (M_tape (M_tp v))), ((q 2), aI K 20 (M_number (M_cd v))), ((q 3), aZ K 5 (M_isTold (M_rd v))), ((q 4), aI K 80 (M_codeSort (M_cd v))), ((q 5), aI K 80 (M_codeA (M_cd v))), ((q 6), aI K 80 (M_codeB (M_cd v))), ((q 7), aI K 80 (M_codeC (M_cd v))), ((q 8), aI K 80 (M_codeName (M_cd v))), ((q 9), aI K 80 (M_codePlace (M_cd v))), ((q 10), aI K 80 (M_codeTo (M_cd v))), ((q 11), aI K 280 (M_labelName (M_cd v))), ((q 12), aI K 280 (M_labelAt (M_cd v))), ((q 13), aI K 64 (M_data (M_cd v))), ((q 14), aZ K 32 (M_hasData (M_rd v))), ((q 15), aI K 314 f58), ((q 16), aI K 314 (M_aside (M_ex v))), ((q 17), aI K 314 (M_further (M_ex v))), ((q 18), aI K 314 (M_image (M_im v))), ((q 19), aI K 3 (M_sizeNow (M_rn v))), ((q 20), aI K 8 (M_aloneRegister (M_al v))), ((q 21), aI K 4 (M_aloneReal (M_al v))), ((q 22), aI K 32 (M_aloneMemory (M_al v))), ((q 23), aI K 999 (M_aloneOutput (M_al v)))]) cx 15 rfl h57 dX10_stepped_291 ef58 rfl ?_
            refine r_goto (pc := 292) (tgt := 686) cx dX10_stepped_292 (by decide) ?_
            refine r_loc (loc' := [(0, .ref (q 0)), (1, .int a1), (7, .int (0 : Int32))]) [6, 7, 0] rfl ?_
            exact hJ14 _ _ hf
          · have hf := ifn h52 hf
            by_cases h59 : x4 = (12 : Int32)
            · have hf := ifp h59 hf
              refine r_tin (pc := 65) (tgt := 295) cx (12 : Int32) h59 dX10_stepped_65 (by decide) (by decide) rfl (by decide) ?_
              refine r_iload_n (pc := 295) cx dX10_stepped_295 7 rfl ?_
              refine r_if_ne (pc := 296) (tgt := 307) cx dX10_stepped_296 (by decide) (fun h60 => ?_) (fun h60 => ?_)
              · have hf := ifn h60 hf
                refine r_aload_n (pc := 307) cx dX10_stepped_307 6 rfl ?_
                refine r_iload_n (pc := 308) cx dX10_stepped_308 5 rfl ?_
                obtain ⟨r61, v62, hc63, hf⟩ := bd2_of hf
                refine r_Vi (pc := 309) (ws' := [((q 0), ob 9 [.int (M_thrown v62), .ref (q 1), .int (M_taped (M_tp v62)), .ref (q 2), .ref (q 3), .ref (q 4), .ref (q 5), .ref (q 6), .ref (q 7), .ref (q 8), .ref (q 9), .ref (q 10), .ref (q 11), .ref (q 12), .ref (q 13), .ref (q 14), .int (M_lines (M_rd v62)), .int (M_size (M_rd v62)), .int (M_at (M_rd v62)), .int (M_place (M_rd v62)), .int (M_sort (M_rd v62)), .int (M_value (M_rd v62)), .int (M_fault (M_rd v62)), .int (M_faultPlace (M_rd v62)), .int (M_lastFault (M_lf v62)), .int (M_lastPlace (M_lf v62)), .ref (q 15), .ref (q 16), .ref (q 17), .ref (q 18), .int (M_hasImage (M_im v62)), .int (M_spanNow (M_rn v62)), .ref (q 19), .int (M_placeThen (M_rn v62)), .int (M_alonePlace (M_al v62)), .int (M_aloneSteps (M_al v62)), .int (M_aloneOut (M_al v62)), .ref (q 20), .ref (q 21), .ref (q 22), .ref (q 23), .int (M_shotAlarm (M_ex v62)), .int (M_drawn (M_ex v62))]), ((q 1), aI K 700 (M_tape (M_tp v62))), ((q 2), aI K 20 (M_number (M_cd v62))), ((q 3), aZ K 5 (M_isTold (M_rd v62))), ((q 4), aI K 80 (M_codeSort (M_cd v62))), ((q 5), aI K 80 (M_codeA (M_cd v62))), ((q 6), aI K 80 (M_codeB (M_cd v62))), ((q 7), aI K 80 (M_codeC (M_cd v62))), ((q 8), aI K 80 (M_codeName (M_cd v62))), ((q 9), aI K 80 (M_codePlace (M_cd v62))), ((q 10), aI K 80 (M_codeTo (M_cd v62))), ((q 11), aI K 280 (M_labelName (M_cd v62))), ((q 12), aI K 280 (M_labelAt (M_cd v62))), ((q 13), aI K 64 (M_data (M_cd v62))), ((q 14), aZ K 32 (M_hasData (M_rd v62))), ((q 15), aI K 314 (M_s (M_rn v62))), ((q 16), aI K 314 (M_aside (M_ex v62))), ((q 17), aI K 314 (M_further (M_ex v62))), ((q 18), aI K 314 (M_image (M_im v62))), ((q 19), aI K 3 (M_sizeNow (M_rn v62))), ((q 20), aI K 8 (M_aloneRegister (M_al v62))), ((q 21), aI K 4 (M_aloneReal (M_al v62))), ((q 22), aI K 32 (M_aloneMemory (M_al v62))), ((q 23), aI K 999 (M_aloneOutput (M_al v62)))]) (nn := 24) cx [.int x2] [] (m_M_trailerLoads l D K q ((M_tp v), (M_rd v), (M_lf v), (M_cd v), ((M_s (M_rn v)), (M_spanNow (M_rn v)), (M_sizeNow (M_rn v)), x11), (M_ex v), (M_im v), (M_al v), (M_thrown v)) x2 hc63) yv_X10_trailerLoads wd_1615 ⟨rfl, rfl⟩ (by decide) (fr_s (j := 0) rfl rfl rfl (fr_s (j := 1) rfl rfl rfl (fr_s (j := 2) rfl rfl rfl (fr_s (j := 3) rfl rfl rfl (fr_s (j := 4) rfl rfl rfl (fr_s (j := 5) rfl rfl rfl (fr_s (j := 6) rfl rfl rfl (fr_s (j := 7) rfl rfl rfl (fr_s (j := 8) rfl rfl rfl (fr_s (j := 9) rfl rfl rfl (fr_s (j := 10) rfl rfl rfl (fr_s (j := 11) rfl rfl rfl (fr_s (j := 12) rfl rfl rfl (fr_s (j := 13) rfl rfl rfl (fr_s (j := 14) rfl rfl rfl (fr_s (j := 15) rfl rfl rfl (fr_s (j := 16) rfl rfl rfl (fr_s (j := 17) rfl rfl rfl (fr_s (j := 18) rfl rfl rfl (fr_s (j := 19) rfl rfl rfl (fr_s (j := 20) rfl rfl rfl (fr_s (j := 21) rfl rfl rfl (fr_s (j := 22) rfl rfl rfl (fr_s (j := 23) rfl rfl rfl (fr_n))))))))))))))))))))))))) rfl (by decide) 0 rfl rfl rfl (Nat.le_of_ble_eq_true rfl) dX10_stepped_309 ?_
                refine r_istore (pc := 312) (loc' := [(7, .int r61), (6, .int x10), (5, .int x6), (4, .int x5), (3, .int x4), (2, .int x2), (0, .ref (q 0)), (1, .int a1)]) cx dX10_stepped_312 (by decide) rfl ?_
                refine r_goto (pc := 314) (tgt := 686) cx dX10_stepped_314 (by decide) ?_
                refine r_loc (loc' := [(0, .ref (q 0)), (1, .int a1), (7, .int r61)]) [6, 7, 0] rfl ?_
                exact hJ14 _ _ hf
              · have hf := ifp h60 hf
                refine r_aload_n (pc := 299) cx dX10_stepped_299 6 rfl ?_
                refine r_iload_n (pc := 300) cx dX10_stepped_300 5 rfl ?_
                obtain ⟨r64, v65, hc66, hf⟩ := bd2_of hf
                refine r_Vi (pc := 301) (ws' := [((q 0), ob 9 [.int (M_thrown v65), .ref (q 1), .int (M_taped (M_tp v65)), .ref (q 2), .ref (q 3), .ref (q 4), .ref (q 5), .ref (q 6), .ref (q 7), .ref (q 8), .ref (q 9), .ref (q 10), .ref (q 11), .ref (q 12), .ref (q 13), .ref (q 14), .int (M_lines (M_rd v65)), .int (M_size (M_rd v65)), .int (M_at (M_rd v65)), .int (M_place (M_rd v65)), .int (M_sort (M_rd v65)), .int (M_value (M_rd v65)), .int (M_fault (M_rd v65)), .int (M_faultPlace (M_rd v65)), .int (M_lastFault (M_lf v65)), .int (M_lastPlace (M_lf v65)), .ref (q 15), .ref (q 16), .ref (q 17), .ref (q 18), .int (M_hasImage (M_im v65)), .int (M_spanNow (M_rn v65)), .ref (q 19), .int (M_placeThen (M_rn v65)), .int (M_alonePlace (M_al v65)), .int (M_aloneSteps (M_al v65)), .int (M_aloneOut (M_al v65)), .ref (q 20), .ref (q 21), .ref (q 22), .ref (q 23), .int (M_shotAlarm (M_ex v65)), .int (M_drawn (M_ex v65))]), ((q 1), aI K 700 (M_tape (M_tp v65))), ((q 2), aI K 20 (M_number (M_cd v65))), ((q 3), aZ K 5 (M_isTold (M_rd v65))), ((q 4), aI K 80 (M_codeSort (M_cd v65))), ((q 5), aI K 80 (M_codeA (M_cd v65))), ((q 6), aI K 80 (M_codeB (M_cd v65))), ((q 7), aI K 80 (M_codeC (M_cd v65))), ((q 8), aI K 80 (M_codeName (M_cd v65))), ((q 9), aI K 80 (M_codePlace (M_cd v65))), ((q 10), aI K 80 (M_codeTo (M_cd v65))), ((q 11), aI K 280 (M_labelName (M_cd v65))), ((q 12), aI K 280 (M_labelAt (M_cd v65))), ((q 13), aI K 64 (M_data (M_cd v65))), ((q 14), aZ K 32 (M_hasData (M_rd v65))), ((q 15), aI K 314 (M_s (M_rn v65))), ((q 16), aI K 314 (M_aside (M_ex v65))), ((q 17), aI K 314 (M_further (M_ex v65))), ((q 18), aI K 314 (M_image (M_im v65))), ((q 19), aI K 3 (M_sizeNow (M_rn v65))), ((q 20), aI K 8 (M_aloneRegister (M_al v65))), ((q 21), aI K 4 (M_aloneReal (M_al v65))), ((q 22), aI K 32 (M_aloneMemory (M_al v65))), ((q 23), aI K 999 (M_aloneOutput (M_al v65)))]) (nn := 24) cx [.int x2] [] (m_M_leaderLoads l D K q ((M_tp v), (M_rd v), (M_lf v), (M_cd v), ((M_s (M_rn v)), (M_spanNow (M_rn v)), (M_sizeNow (M_rn v)), x11), (M_ex v), (M_im v), (M_al v), (M_thrown v)) x2 hc66) yv_X10_leaderLoads wd_1607 ⟨rfl, rfl⟩ (by decide) (fr_s (j := 0) rfl rfl rfl (fr_s (j := 1) rfl rfl rfl (fr_s (j := 2) rfl rfl rfl (fr_s (j := 3) rfl rfl rfl (fr_s (j := 4) rfl rfl rfl (fr_s (j := 5) rfl rfl rfl (fr_s (j := 6) rfl rfl rfl (fr_s (j := 7) rfl rfl rfl (fr_s (j := 8) rfl rfl rfl (fr_s (j := 9) rfl rfl rfl (fr_s (j := 10) rfl rfl rfl (fr_s (j := 11) rfl rfl rfl (fr_s (j := 12) rfl rfl rfl (fr_s (j := 13) rfl rfl rfl (fr_s (j := 14) rfl rfl rfl (fr_s (j := 15) rfl rfl rfl (fr_s (j := 16) rfl rfl rfl (fr_s (j := 17) rfl rfl rfl (fr_s (j := 18) rfl rfl rfl (fr_s (j := 19) rfl rfl rfl (fr_s (j := 20) rfl rfl rfl (fr_s (j := 21) rfl rfl rfl (fr_s (j := 22) rfl rfl rfl (fr_s (j := 23) rfl rfl rfl (fr_n))))))))))))))))))))))))) rfl (by decide) 0 rfl rfl rfl (Nat.le_of_ble_eq_true rfl) dX10_stepped_301 ?_
                refine r_goto (pc := 304) (tgt := 312) cx dX10_stepped_304 (by decide) ?_
                refine r_istore (pc := 312) (loc' := [(7, .int r64), (6, .int x10), (5, .int x6), (4, .int x5), (3, .int x4), (2, .int x2), (0, .ref (q 0)), (1, .int a1)]) cx dX10_stepped_312 (by decide) rfl ?_
                refine r_goto (pc := 314) (tgt := 686) cx dX10_stepped_314 (by decide) ?_
                refine r_loc (loc' := [(0, .ref (q 0)), (1, .int a1), (7, .int r64)]) [6, 7, 0] rfl ?_
                exact hJ14 _ _ hf
            · have hf := ifn h59 hf
              by_cases h67 : x4 = (13 : Int32)
              · have hf := ifp h67 hf
                refine r_tin (pc := 65) (tgt := 317) cx (13 : Int32) h67 dX10_stepped_65 (by decide) (by decide) rfl (by decide) ?_
                refine r_iload_n (pc := 317) cx dX10_stepped_317 7 rfl ?_
                refine r_if_ne (pc := 318) (tgt := 348) cx dX10_stepped_318 (by decide) (fun h68 => ?_) (fun h68 => ?_)
                · have hf := ifn h68 hf
                  refine r_aload_n (pc := 348) cx dX10_stepped_348 6 rfl ?_
                  refine r_aload_n (pc := 349) cx dX10_stepped_349 6 rfl ?_
                  refine r_iconst (pc := 350) cx dX10_stepped_350 ic_1 ?_
                  refine r_iload_n (pc := 351) cx dX10_stepped_351 5 rfl ?_
                  obtain ⟨r69, hc70, hf⟩ := bd_of hf
                  refine r_Vi (pc := 352) (ws' := [((q 0), ob 9 [.int (M_thrown v), .ref (q 1), .int (M_taped (M_tp v)), .ref (q 2), .ref (q 3), .ref (q 4), .ref (q 5), .ref (q 6), .ref (q 7), .ref (q 8), .ref (q 9), .ref (q 10), .ref (q 11), .ref (q 12), .ref (q 13), .ref (q 14), .int (M_lines (M_rd v)), .int (M_size (M_rd v)), .int (M_at (M_rd v)), .int (M_place (M_rd v)), .int (M_sort (M_rd v)), .int (M_value (M_rd v)), .int (M_fault (M_rd v)), .int (M_faultPlace (M_rd v)), .int (M_lastFault (M_lf v)), .int (M_lastPlace (M_lf v)), .ref (q 15), .ref (q 16), .ref (q 17), .ref (q 18), .int (M_hasImage (M_im v)), .int (M_spanNow (M_rn v)), .ref (q 19), .int x11, .int (M_alonePlace (M_al v)), .int (M_aloneSteps (M_al v)), .int (M_aloneOut (M_al v)), .ref (q 20), .ref (q 21), .ref (q 22), .ref (q 23), .int (M_shotAlarm (M_ex v)), .int (M_drawn (M_ex v))]), ((q 1), aI K 700 (M_tape (M_tp v))), ((q 2), aI K 20 (M_number (M_cd v))), ((q 3), aZ K 5 (M_isTold (M_rd v))), ((q 4), aI K 80 (M_codeSort (M_cd v))), ((q 5), aI K 80 (M_codeA (M_cd v))), ((q 6), aI K 80 (M_codeB (M_cd v))), ((q 7), aI K 80 (M_codeC (M_cd v))), ((q 8), aI K 80 (M_codeName (M_cd v))), ((q 9), aI K 80 (M_codePlace (M_cd v))), ((q 10), aI K 80 (M_codeTo (M_cd v))), ((q 11), aI K 280 (M_labelName (M_cd v))), ((q 12), aI K 280 (M_labelAt (M_cd v))), ((q 13), aI K 64 (M_data (M_cd v))), ((q 14), aZ K 32 (M_hasData (M_rd v))), ((q 15), aI K 314 (M_s (M_rn v))), ((q 16), aI K 314 (M_aside (M_ex v))), ((q 17), aI K 314 (M_further (M_ex v))), ((q 18), aI K 314 (M_image (M_im v))), ((q 19), aI K 3 (M_sizeNow (M_rn v))), ((q 20), aI K 8 (M_aloneRegister (M_al v))), ((q 21), aI K 4 (M_aloneReal (M_al v))), ((q 22), aI K 32 (M_aloneMemory (M_al v))), ((q 23), aI K 999 (M_aloneOutput (M_al v)))]) (nn := 24) cx [.int (1 : Int32), .int x2] [.ref (q 0)] (m_M_addressOf l D K q ((M_tp v), (M_rd v), (M_lf v), (M_cd v), ((M_s (M_rn v)), (M_spanNow (M_rn v)), (M_sizeNow (M_rn v)), x11), (M_ex v), (M_im v), (M_al v), (M_thrown v)) (1 : Int32) x2 hc70) yv_X10_addressOf wd_1611 ⟨rfl, rfl⟩ (by decide) (fr_s (j := 0) rfl rfl rfl (fr_s (j := 1) rfl rfl rfl (fr_s (j := 2) rfl rfl rfl (fr_s (j := 3) rfl rfl rfl (fr_s (j := 4) rfl rfl rfl (fr_s (j := 5) rfl rfl rfl (fr_s (j := 6) rfl rfl rfl (fr_s (j := 7) rfl rfl rfl (fr_s (j := 8) rfl rfl rfl (fr_s (j := 9) rfl rfl rfl (fr_s (j := 10) rfl rfl rfl (fr_s (j := 11) rfl rfl rfl (fr_s (j := 12) rfl rfl rfl (fr_s (j := 13) rfl rfl rfl (fr_s (j := 14) rfl rfl rfl (fr_s (j := 15) rfl rfl rfl (fr_s (j := 16) rfl rfl rfl (fr_s (j := 17) rfl rfl rfl (fr_s (j := 18) rfl rfl rfl (fr_s (j := 19) rfl rfl rfl (fr_s (j := 20) rfl rfl rfl (fr_s (j := 21) rfl rfl rfl (fr_s (j := 22) rfl rfl rfl (fr_s (j := 23) rfl rfl rfl (fr_n))))))))))))))))))))))))) rfl (by decide) 0 rfl rfl rfl (Nat.le_of_ble_eq_true rfl) dX10_stepped_352 ?_
                  refine r_aload_n (pc := 355) cx dX10_stepped_355 6 rfl ?_
                  refine r_get (pc := 356) cx cf_X10 0 26 rfl (by decide) rfl wd_1342 dX10_stepped_356 ?_
                  refine r_iload (pc := 359) cx dX10_stepped_359 3 rfl ?_
                  refine r_aload_n (pc := 361) cx dX10_stepped_361 6 rfl ?_
                  refine r_get (pc := 362) cx cf_X10 0 6 rfl (by decide) rfl wd_1322 dX10_stepped_362 ?_
                  refine r_iload_n (pc := 365) cx dX10_stepped_365 5 rfl ?_
                  obtain ⟨h71, hf⟩ := chk_of hf
                  refine r_iald (pc := 366) cx 5 rfl h71 dX10_stepped_366 ?_
                  refine r_iadd (pc := 367) cx dX10_stepped_367 ?_
                  obtain ⟨h72, hf⟩ := chk_of hf
                  refine r_iald (pc := 368) cx 15 rfl h72 dX10_stepped_368 ?_
                  obtain ⟨r73, v74, hc75, hf⟩ := bd2_of hf
                  refine r_Vi (pc := 369) (ws' := [((q 0), ob 9 [.int (M_thrown v74), .ref (q 1), .int (M_taped (M_tp v74)), .ref (q 2), .ref (q 3), .ref (q 4), .ref (q 5), .ref (q 6), .ref (q 7), .ref (q 8), .ref (q 9), .ref (q 10), .ref (q 11), .ref (q 12), .ref (q 13), .ref (q 14), .int (M_lines (M_rd v74)), .int (M_size (M_rd v74)), .int (M_at (M_rd v74)), .int (M_place (M_rd v74)), .int (M_sort (M_rd v74)), .int (M_value (M_rd v74)), .int (M_fault (M_rd v74)), .int (M_faultPlace (M_rd v74)), .int (M_lastFault (M_lf v74)), .int (M_lastPlace (M_lf v74)), .ref (q 15), .ref (q 16), .ref (q 17), .ref (q 18), .int (M_hasImage (M_im v74)), .int (M_spanNow (M_rn v74)), .ref (q 19), .int (M_placeThen (M_rn v74)), .int (M_alonePlace (M_al v74)), .int (M_aloneSteps (M_al v74)), .int (M_aloneOut (M_al v74)), .ref (q 20), .ref (q 21), .ref (q 22), .ref (q 23), .int (M_shotAlarm (M_ex v74)), .int (M_drawn (M_ex v74))]), ((q 1), aI K 700 (M_tape (M_tp v74))), ((q 2), aI K 20 (M_number (M_cd v74))), ((q 3), aZ K 5 (M_isTold (M_rd v74))), ((q 4), aI K 80 (M_codeSort (M_cd v74))), ((q 5), aI K 80 (M_codeA (M_cd v74))), ((q 6), aI K 80 (M_codeB (M_cd v74))), ((q 7), aI K 80 (M_codeC (M_cd v74))), ((q 8), aI K 80 (M_codeName (M_cd v74))), ((q 9), aI K 80 (M_codePlace (M_cd v74))), ((q 10), aI K 80 (M_codeTo (M_cd v74))), ((q 11), aI K 280 (M_labelName (M_cd v74))), ((q 12), aI K 280 (M_labelAt (M_cd v74))), ((q 13), aI K 64 (M_data (M_cd v74))), ((q 14), aZ K 32 (M_hasData (M_rd v74))), ((q 15), aI K 314 (M_s (M_rn v74))), ((q 16), aI K 314 (M_aside (M_ex v74))), ((q 17), aI K 314 (M_further (M_ex v74))), ((q 18), aI K 314 (M_image (M_im v74))), ((q 19), aI K 3 (M_sizeNow (M_rn v74))), ((q 20), aI K 8 (M_aloneRegister (M_al v74))), ((q 21), aI K 4 (M_aloneReal (M_al v74))), ((q 22), aI K 32 (M_aloneMemory (M_al v74))), ((q 23), aI K 999 (M_aloneOutput (M_al v74)))]) (nn := 24) cx [.int r69, .int ((M_s (M_rn v)) ((x5 + ((M_codeA (M_cd v)) x2.toNatClampNeg))).toNatClampNeg)] [] (m_M_trailerHolds l D K q ((M_tp v), (M_rd v), (M_lf v), (M_cd v), ((M_s (M_rn v)), (M_spanNow (M_rn v)), (M_sizeNow (M_rn v)), x11), (M_ex v), (M_im v), (M_al v), (M_thrown v)) r69 ((M_s (M_rn v)) ((x5 + ((M_codeA (M_cd v)) x2.toNatClampNeg))).toNatClampNeg) hc75) yv_X10_trailerHolds wd_1623 ⟨rfl, rfl⟩ (by decide) (fr_s (j := 0) rfl rfl rfl (fr_s (j := 1) rfl rfl rfl (fr_s (j := 2) rfl rfl rfl (fr_s (j := 3) rfl rfl rfl (fr_s (j := 4) rfl rfl rfl (fr_s (j := 5) rfl rfl rfl (fr_s (j := 6) rfl rfl rfl (fr_s (j := 7) rfl rfl rfl (fr_s (j := 8) rfl rfl rfl (fr_s (j := 9) rfl rfl rfl (fr_s (j := 10) rfl rfl rfl (fr_s (j := 11) rfl rfl rfl (fr_s (j := 12) rfl rfl rfl (fr_s (j := 13) rfl rfl rfl (fr_s (j := 14) rfl rfl rfl (fr_s (j := 15) rfl rfl rfl (fr_s (j := 16) rfl rfl rfl (fr_s (j := 17) rfl rfl rfl (fr_s (j := 18) rfl rfl rfl (fr_s (j := 19) rfl rfl rfl (fr_s (j := 20) rfl rfl rfl (fr_s (j := 21) rfl rfl rfl (fr_s (j := 22) rfl rfl rfl (fr_s (j := 23) rfl rfl rfl (fr_n))))))))))))))))))))))))) rfl (by decide) 0 rfl rfl rfl (Nat.le_of_ble_eq_true rfl) dX10_stepped_369 ?_
                  refine r_istore (pc := 372) (loc' := [(7, .int r73), (6, .int x10), (5, .int x6), (4, .int x5), (3, .int x4), (2, .int x2), (0, .ref (q 0)), (1, .int a1)]) cx dX10_stepped_372 (by decide) rfl ?_
                  refine r_goto (pc := 374) (tgt := 686) cx dX10_stepped_374 (by decide) ?_
                  refine r_loc (loc' := [(0, .ref (q 0)), (1, .int a1), (7, .int r73)]) [6, 7, 0] rfl ?_
                  exact hJ14 _ _ hf
                · have hf := ifp h68 hf
                  refine r_aload_n (pc := 321) cx dX10_stepped_321 6 rfl ?_
                  refine r_aload_n (pc := 322) cx dX10_stepped_322 6 rfl ?_
                  refine r_iconst (pc := 323) cx dX10_stepped_323 ic_0 ?_
                  refine r_iload_n (pc := 324) cx dX10_stepped_324 5 rfl ?_
                  obtain ⟨r76, hc77, hf⟩ := bd_of hf
                  refine r_Vi (pc := 325) (ws' := [((q 0), ob 9 [.int (M_thrown v), .ref (q 1), .int (M_taped (M_tp v)), .ref (q 2), .ref (q 3), .ref (q 4), .ref (q 5), .ref (q 6), .ref (q 7), .ref (q 8), .ref (q 9), .ref (q 10), .ref (q 11), .ref (q 12), .ref (q 13), .ref (q 14), .int (M_lines (M_rd v)), .int (M_size (M_rd v)), .int (M_at (M_rd v)), .int (M_place (M_rd v)), .int (M_sort (M_rd v)), .int (M_value (M_rd v)), .int (M_fault (M_rd v)), .int (M_faultPlace (M_rd v)), .int (M_lastFault (M_lf v)), .int (M_lastPlace (M_lf v)), .ref (q 15), .ref (q 16), .ref (q 17), .ref (q 18), .int (M_hasImage (M_im v)), .int (M_spanNow (M_rn v)), .ref (q 19), .int x11, .int (M_alonePlace (M_al v)), .int (M_aloneSteps (M_al v)), .int (M_aloneOut (M_al v)), .ref (q 20), .ref (q 21), .ref (q 22), .ref (q 23), .int (M_shotAlarm (M_ex v)), .int (M_drawn (M_ex v))]), ((q 1), aI K 700 (M_tape (M_tp v))), ((q 2), aI K 20 (M_number (M_cd v))), ((q 3), aZ K 5 (M_isTold (M_rd v))), ((q 4), aI K 80 (M_codeSort (M_cd v))), ((q 5), aI K 80 (M_codeA (M_cd v))), ((q 6), aI K 80 (M_codeB (M_cd v))), ((q 7), aI K 80 (M_codeC (M_cd v))), ((q 8), aI K 80 (M_codeName (M_cd v))), ((q 9), aI K 80 (M_codePlace (M_cd v))), ((q 10), aI K 80 (M_codeTo (M_cd v))), ((q 11), aI K 280 (M_labelName (M_cd v))), ((q 12), aI K 280 (M_labelAt (M_cd v))), ((q 13), aI K 64 (M_data (M_cd v))), ((q 14), aZ K 32 (M_hasData (M_rd v))), ((q 15), aI K 314 (M_s (M_rn v))), ((q 16), aI K 314 (M_aside (M_ex v))), ((q 17), aI K 314 (M_further (M_ex v))), ((q 18), aI K 314 (M_image (M_im v))), ((q 19), aI K 3 (M_sizeNow (M_rn v))), ((q 20), aI K 8 (M_aloneRegister (M_al v))), ((q 21), aI K 4 (M_aloneReal (M_al v))), ((q 22), aI K 32 (M_aloneMemory (M_al v))), ((q 23), aI K 999 (M_aloneOutput (M_al v)))]) (nn := 24) cx [.int (0 : Int32), .int x2] [.ref (q 0)] (m_M_addressOf l D K q ((M_tp v), (M_rd v), (M_lf v), (M_cd v), ((M_s (M_rn v)), (M_spanNow (M_rn v)), (M_sizeNow (M_rn v)), x11), (M_ex v), (M_im v), (M_al v), (M_thrown v)) (0 : Int32) x2 hc77) yv_X10_addressOf wd_1611 ⟨rfl, rfl⟩ (by decide) (fr_s (j := 0) rfl rfl rfl (fr_s (j := 1) rfl rfl rfl (fr_s (j := 2) rfl rfl rfl (fr_s (j := 3) rfl rfl rfl (fr_s (j := 4) rfl rfl rfl (fr_s (j := 5) rfl rfl rfl (fr_s (j := 6) rfl rfl rfl (fr_s (j := 7) rfl rfl rfl (fr_s (j := 8) rfl rfl rfl (fr_s (j := 9) rfl rfl rfl (fr_s (j := 10) rfl rfl rfl (fr_s (j := 11) rfl rfl rfl (fr_s (j := 12) rfl rfl rfl (fr_s (j := 13) rfl rfl rfl (fr_s (j := 14) rfl rfl rfl (fr_s (j := 15) rfl rfl rfl (fr_s (j := 16) rfl rfl rfl (fr_s (j := 17) rfl rfl rfl (fr_s (j := 18) rfl rfl rfl (fr_s (j := 19) rfl rfl rfl (fr_s (j := 20) rfl rfl rfl (fr_s (j := 21) rfl rfl rfl (fr_s (j := 22) rfl rfl rfl (fr_s (j := 23) rfl rfl rfl (fr_n))))))))))))))))))))))))) rfl (by decide) 0 rfl rfl rfl (Nat.le_of_ble_eq_true rfl) dX10_stepped_325 ?_
                  refine r_aload_n (pc := 328) cx dX10_stepped_328 6 rfl ?_
                  refine r_get (pc := 329) cx cf_X10 0 26 rfl (by decide) rfl wd_1342 dX10_stepped_329 ?_
                  refine r_iload (pc := 332) cx dX10_stepped_332 3 rfl ?_
                  refine r_aload_n (pc := 334) cx dX10_stepped_334 6 rfl ?_
                  refine r_get (pc := 335) cx cf_X10 0 6 rfl (by decide) rfl wd_1322 dX10_stepped_335 ?_
                  refine r_iload_n (pc := 338) cx dX10_stepped_338 5 rfl ?_
                  obtain ⟨h78, hf⟩ := chk_of hf
                  refine r_iald (pc := 339) cx 5 rfl h78 dX10_stepped_339 ?_
                  refine r_iadd (pc := 340) cx dX10_stepped_340 ?_
                  obtain ⟨h79, hf⟩ := chk_of hf
                  refine r_iald (pc := 341) cx 15 rfl h79 dX10_stepped_341 ?_
                  obtain ⟨r80, v81, hc82, hf⟩ := bd2_of hf
                  refine r_Vi (pc := 342) (ws' := [((q 0), ob 9 [.int (M_thrown v81), .ref (q 1), .int (M_taped (M_tp v81)), .ref (q 2), .ref (q 3), .ref (q 4), .ref (q 5), .ref (q 6), .ref (q 7), .ref (q 8), .ref (q 9), .ref (q 10), .ref (q 11), .ref (q 12), .ref (q 13), .ref (q 14), .int (M_lines (M_rd v81)), .int (M_size (M_rd v81)), .int (M_at (M_rd v81)), .int (M_place (M_rd v81)), .int (M_sort (M_rd v81)), .int (M_value (M_rd v81)), .int (M_fault (M_rd v81)), .int (M_faultPlace (M_rd v81)), .int (M_lastFault (M_lf v81)), .int (M_lastPlace (M_lf v81)), .ref (q 15), .ref (q 16), .ref (q 17), .ref (q 18), .int (M_hasImage (M_im v81)), .int (M_spanNow (M_rn v81)), .ref (q 19), .int (M_placeThen (M_rn v81)), .int (M_alonePlace (M_al v81)), .int (M_aloneSteps (M_al v81)), .int (M_aloneOut (M_al v81)), .ref (q 20), .ref (q 21), .ref (q 22), .ref (q 23), .int (M_shotAlarm (M_ex v81)), .int (M_drawn (M_ex v81))]), ((q 1), aI K 700 (M_tape (M_tp v81))), ((q 2), aI K 20 (M_number (M_cd v81))), ((q 3), aZ K 5 (M_isTold (M_rd v81))), ((q 4), aI K 80 (M_codeSort (M_cd v81))), ((q 5), aI K 80 (M_codeA (M_cd v81))), ((q 6), aI K 80 (M_codeB (M_cd v81))), ((q 7), aI K 80 (M_codeC (M_cd v81))), ((q 8), aI K 80 (M_codeName (M_cd v81))), ((q 9), aI K 80 (M_codePlace (M_cd v81))), ((q 10), aI K 80 (M_codeTo (M_cd v81))), ((q 11), aI K 280 (M_labelName (M_cd v81))), ((q 12), aI K 280 (M_labelAt (M_cd v81))), ((q 13), aI K 64 (M_data (M_cd v81))), ((q 14), aZ K 32 (M_hasData (M_rd v81))), ((q 15), aI K 314 (M_s (M_rn v81))), ((q 16), aI K 314 (M_aside (M_ex v81))), ((q 17), aI K 314 (M_further (M_ex v81))), ((q 18), aI K 314 (M_image (M_im v81))), ((q 19), aI K 3 (M_sizeNow (M_rn v81))), ((q 20), aI K 8 (M_aloneRegister (M_al v81))), ((q 21), aI K 4 (M_aloneReal (M_al v81))), ((q 22), aI K 32 (M_aloneMemory (M_al v81))), ((q 23), aI K 999 (M_aloneOutput (M_al v81)))]) (nn := 24) cx [.int r76, .int ((M_s (M_rn v)) ((x5 + ((M_codeA (M_cd v)) x2.toNatClampNeg))).toNatClampNeg)] [] (m_M_leaderHolds l D K q ((M_tp v), (M_rd v), (M_lf v), (M_cd v), ((M_s (M_rn v)), (M_spanNow (M_rn v)), (M_sizeNow (M_rn v)), x11), (M_ex v), (M_im v), (M_al v), (M_thrown v)) r76 ((M_s (M_rn v)) ((x5 + ((M_codeA (M_cd v)) x2.toNatClampNeg))).toNatClampNeg) hc82) yv_X10_leaderHolds wd_1619 ⟨rfl, rfl⟩ (by decide) (fr_s (j := 0) rfl rfl rfl (fr_s (j := 1) rfl rfl rfl (fr_s (j := 2) rfl rfl rfl (fr_s (j := 3) rfl rfl rfl (fr_s (j := 4) rfl rfl rfl (fr_s (j := 5) rfl rfl rfl (fr_s (j := 6) rfl rfl rfl (fr_s (j := 7) rfl rfl rfl (fr_s (j := 8) rfl rfl rfl (fr_s (j := 9) rfl rfl rfl (fr_s (j := 10) rfl rfl rfl (fr_s (j := 11) rfl rfl rfl (fr_s (j := 12) rfl rfl rfl (fr_s (j := 13) rfl rfl rfl (fr_s (j := 14) rfl rfl rfl (fr_s (j := 15) rfl rfl rfl (fr_s (j := 16) rfl rfl rfl (fr_s (j := 17) rfl rfl rfl (fr_s (j := 18) rfl rfl rfl (fr_s (j := 19) rfl rfl rfl (fr_s (j := 20) rfl rfl rfl (fr_s (j := 21) rfl rfl rfl (fr_s (j := 22) rfl rfl rfl (fr_s (j := 23) rfl rfl rfl (fr_n))))))))))))))))))))))))) rfl (by decide) 0 rfl rfl rfl (Nat.le_of_ble_eq_true rfl) dX10_stepped_342 ?_
                  refine r_goto (pc := 345) (tgt := 372) cx dX10_stepped_345 (by decide) ?_
                  refine r_istore (pc := 372) (loc' := [(7, .int r80), (6, .int x10), (5, .int x6), (4, .int x5), (3, .int x4), (2, .int x2), (0, .ref (q 0)), (1, .int a1)]) cx dX10_stepped_372 (by decide) rfl ?_
                  refine r_goto (pc := 374) (tgt := 686) cx dX10_stepped_374 (by decide) ?_
                  refine r_loc (loc' := [(0, .ref (q 0)), (1, .int a1), (7, .int r80)]) [6, 7, 0] rfl ?_
                  exact hJ14 _ _ hf
              · have hf := ifn h67 hf
                by_cases h83 : x4 = (14 : Int32)
                · have hf := ifp h83 hf
                  refine r_tin (pc := 65) (tgt := 377) cx (14 : Int32) h83 dX10_stepped_65 (by decide) (by decide) rfl (by decide) ?_
                  refine r_iload_n (pc := 377) cx dX10_stepped_377 7 rfl ?_
                  refine r_if_ne (pc := 378) (tgt := 404) cx dX10_stepped_378 (by decide) (fun h84 => ?_) (fun h84 => ?_)
                  · have hf := ifn h84 hf
                    refine r_aload_n (pc := 404) cx dX10_stepped_404 6 rfl ?_
                    refine r_bipush (pc := 405) cx dX10_stepped_405 bp_32 ?_
                    refine r_aload_n (pc := 407) cx dX10_stepped_407 6 rfl ?_
                    refine r_get (pc := 408) cx cf_X10 0 26 rfl (by decide) rfl wd_1342 dX10_stepped_408 ?_
                    refine r_iload (pc := 411) cx dX10_stepped_411 3 rfl ?_
                    refine r_aload_n (pc := 413) cx dX10_stepped_413 6 rfl ?_
                    refine r_get (pc := 414) cx cf_X10 0 6 rfl (by decide) rfl wd_1322 dX10_stepped_414 ?_
                    refine r_iload_n (pc := 417) cx dX10_stepped_417 5 rfl ?_
                    obtain ⟨h85, hf⟩ := chk_of hf
                    refine r_iald (pc := 418) cx 5 rfl h85 dX10_stepped_418 ?_
                    refine r_iadd (pc := 419) cx dX10_stepped_419 ?_
                    obtain ⟨h86, hf⟩ := chk_of hf
                    refine r_iald (pc := 420) cx 15 rfl h86 dX10_stepped_420 ?_
                    obtain ⟨r87, v88, hc89, hf⟩ := bd2_of hf
                    refine r_Vi (pc := 421) (ws' := [((q 0), ob 9 [.int (M_thrown v88), .ref (q 1), .int (M_taped (M_tp v88)), .ref (q 2), .ref (q 3), .ref (q 4), .ref (q 5), .ref (q 6), .ref (q 7), .ref (q 8), .ref (q 9), .ref (q 10), .ref (q 11), .ref (q 12), .ref (q 13), .ref (q 14), .int (M_lines (M_rd v88)), .int (M_size (M_rd v88)), .int (M_at (M_rd v88)), .int (M_place (M_rd v88)), .int (M_sort (M_rd v88)), .int (M_value (M_rd v88)), .int (M_fault (M_rd v88)), .int (M_faultPlace (M_rd v88)), .int (M_lastFault (M_lf v88)), .int (M_lastPlace (M_lf v88)), .ref (q 15), .ref (q 16), .ref (q 17), .ref (q 18), .int (M_hasImage (M_im v88)), .int (M_spanNow (M_rn v88)), .ref (q 19), .int (M_placeThen (M_rn v88)), .int (M_alonePlace (M_al v88)), .int (M_aloneSteps (M_al v88)), .int (M_aloneOut (M_al v88)), .ref (q 20), .ref (q 21), .ref (q 22), .ref (q 23), .int (M_shotAlarm (M_ex v88)), .int (M_drawn (M_ex v88))]), ((q 1), aI K 700 (M_tape (M_tp v88))), ((q 2), aI K 20 (M_number (M_cd v88))), ((q 3), aZ K 5 (M_isTold (M_rd v88))), ((q 4), aI K 80 (M_codeSort (M_cd v88))), ((q 5), aI K 80 (M_codeA (M_cd v88))), ((q 6), aI K 80 (M_codeB (M_cd v88))), ((q 7), aI K 80 (M_codeC (M_cd v88))), ((q 8), aI K 80 (M_codeName (M_cd v88))), ((q 9), aI K 80 (M_codePlace (M_cd v88))), ((q 10), aI K 80 (M_codeTo (M_cd v88))), ((q 11), aI K 280 (M_labelName (M_cd v88))), ((q 12), aI K 280 (M_labelAt (M_cd v88))), ((q 13), aI K 64 (M_data (M_cd v88))), ((q 14), aZ K 32 (M_hasData (M_rd v88))), ((q 15), aI K 314 (M_s (M_rn v88))), ((q 16), aI K 314 (M_aside (M_ex v88))), ((q 17), aI K 314 (M_further (M_ex v88))), ((q 18), aI K 314 (M_image (M_im v88))), ((q 19), aI K 3 (M_sizeNow (M_rn v88))), ((q 20), aI K 8 (M_aloneRegister (M_al v88))), ((q 21), aI K 4 (M_aloneReal (M_al v88))), ((q 22), aI K 32 (M_aloneMemory (M_al v88))), ((q 23), aI K 999 (M_aloneOutput (M_al v88)))]) (nn := 24) cx [.int (32 : Int32), .int ((M_s (M_rn v)) ((x5 + ((M_codeA (M_cd v)) x2.toNatClampNeg))).toNatClampNeg)] [] (m_M_trailerHolds l D K q ((M_tp v), (M_rd v), (M_lf v), (M_cd v), ((M_s (M_rn v)), (M_spanNow (M_rn v)), (M_sizeNow (M_rn v)), x11), (M_ex v), (M_im v), (M_al v), (M_thrown v)) (32 : Int32) ((M_s (M_rn v)) ((x5 + ((M_codeA (M_cd v)) x2.toNatClampNeg))).toNatClampNeg) hc89) yv_X10_trailerHolds wd_1623 ⟨rfl, rfl⟩ (by decide) (fr_s (j := 0) rfl rfl rfl (fr_s (j := 1) rfl rfl rfl (fr_s (j := 2) rfl rfl rfl (fr_s (j := 3) rfl rfl rfl (fr_s (j := 4) rfl rfl rfl (fr_s (j := 5) rfl rfl rfl (fr_s (j := 6) rfl rfl rfl (fr_s (j := 7) rfl rfl rfl (fr_s (j := 8) rfl rfl rfl (fr_s (j := 9) rfl rfl rfl (fr_s (j := 10) rfl rfl rfl (fr_s (j := 11) rfl rfl rfl (fr_s (j := 12) rfl rfl rfl (fr_s (j := 13) rfl rfl rfl (fr_s (j := 14) rfl rfl rfl (fr_s (j := 15) rfl rfl rfl (fr_s (j := 16) rfl rfl rfl (fr_s (j := 17) rfl rfl rfl (fr_s (j := 18) rfl rfl rfl (fr_s (j := 19) rfl rfl rfl (fr_s (j := 20) rfl rfl rfl (fr_s (j := 21) rfl rfl rfl (fr_s (j := 22) rfl rfl rfl (fr_s (j := 23) rfl rfl rfl (fr_n))))))))))))))))))))))))) rfl (by decide) 0 rfl rfl rfl (Nat.le_of_ble_eq_true rfl) dX10_stepped_421 ?_
                    refine r_istore (pc := 424) (loc' := [(7, .int r87), (6, .int x10), (5, .int x6), (4, .int x5), (3, .int x4), (2, .int x2), (0, .ref (q 0)), (1, .int a1)]) cx dX10_stepped_424 (by decide) rfl ?_
                    refine r_goto (pc := 426) (tgt := 686) cx dX10_stepped_426 (by decide) ?_
                    refine r_loc (loc' := [(0, .ref (q 0)), (1, .int a1), (7, .int r87)]) [6, 7, 0] rfl ?_
                    exact hJ14 _ _ hf
                  · have hf := ifp h84 hf
                    refine r_aload_n (pc := 381) cx dX10_stepped_381 6 rfl ?_
                    refine r_bipush (pc := 382) cx dX10_stepped_382 bp_32 ?_
                    refine r_aload_n (pc := 384) cx dX10_stepped_384 6 rfl ?_
                    refine r_get (pc := 385) cx cf_X10 0 26 rfl (by decide) rfl wd_1342 dX10_stepped_385 ?_
                    refine r_iload (pc := 388) cx dX10_stepped_388 3 rfl ?_
                    refine r_aload_n (pc := 390) cx dX10_stepped_390 6 rfl ?_
                    refine r_get (pc := 391) cx cf_X10 0 6 rfl (by decide) rfl wd_1322 dX10_stepped_391 ?_
                    refine r_iload_n (pc := 394) cx dX10_stepped_394 5 rfl ?_
                    obtain ⟨h90, hf⟩ := chk_of hf
                    refine r_iald (pc := 395) cx 5 rfl h90 dX10_stepped_395 ?_
                    refine r_iadd (pc := 396) cx dX10_stepped_396 ?_
                    obtain ⟨h91, hf⟩ := chk_of hf
                    refine r_iald (pc := 397) cx 15 rfl h91 dX10_stepped_397 ?_
                    obtain ⟨r92, v93, hc94, hf⟩ := bd2_of hf
                    refine r_Vi (pc := 398) (ws' := [((q 0), ob 9 [.int (M_thrown v93), .ref (q 1), .int (M_taped (M_tp v93)), .ref (q 2), .ref (q 3), .ref (q 4), .ref (q 5), .ref (q 6), .ref (q 7), .ref (q 8), .ref (q 9), .ref (q 10), .ref (q 11), .ref (q 12), .ref (q 13), .ref (q 14), .int (M_lines (M_rd v93)), .int (M_size (M_rd v93)), .int (M_at (M_rd v93)), .int (M_place (M_rd v93)), .int (M_sort (M_rd v93)), .int (M_value (M_rd v93)), .int (M_fault (M_rd v93)), .int (M_faultPlace (M_rd v93)), .int (M_lastFault (M_lf v93)), .int (M_lastPlace (M_lf v93)), .ref (q 15), .ref (q 16), .ref (q 17), .ref (q 18), .int (M_hasImage (M_im v93)), .int (M_spanNow (M_rn v93)), .ref (q 19), .int (M_placeThen (M_rn v93)), .int (M_alonePlace (M_al v93)), .int (M_aloneSteps (M_al v93)), .int (M_aloneOut (M_al v93)), .ref (q 20), .ref (q 21), .ref (q 22), .ref (q 23), .int (M_shotAlarm (M_ex v93)), .int (M_drawn (M_ex v93))]), ((q 1), aI K 700 (M_tape (M_tp v93))), ((q 2), aI K 20 (M_number (M_cd v93))), ((q 3), aZ K 5 (M_isTold (M_rd v93))), ((q 4), aI K 80 (M_codeSort (M_cd v93))), ((q 5), aI K 80 (M_codeA (M_cd v93))), ((q 6), aI K 80 (M_codeB (M_cd v93))), ((q 7), aI K 80 (M_codeC (M_cd v93))), ((q 8), aI K 80 (M_codeName (M_cd v93))), ((q 9), aI K 80 (M_codePlace (M_cd v93))), ((q 10), aI K 80 (M_codeTo (M_cd v93))), ((q 11), aI K 280 (M_labelName (M_cd v93))), ((q 12), aI K 280 (M_labelAt (M_cd v93))), ((q 13), aI K 64 (M_data (M_cd v93))), ((q 14), aZ K 32 (M_hasData (M_rd v93))), ((q 15), aI K 314 (M_s (M_rn v93))), ((q 16), aI K 314 (M_aside (M_ex v93))), ((q 17), aI K 314 (M_further (M_ex v93))), ((q 18), aI K 314 (M_image (M_im v93))), ((q 19), aI K 3 (M_sizeNow (M_rn v93))), ((q 20), aI K 8 (M_aloneRegister (M_al v93))), ((q 21), aI K 4 (M_aloneReal (M_al v93))), ((q 22), aI K 32 (M_aloneMemory (M_al v93))), ((q 23), aI K 999 (M_aloneOutput (M_al v93)))]) (nn := 24) cx [.int (32 : Int32), .int ((M_s (M_rn v)) ((x5 + ((M_codeA (M_cd v)) x2.toNatClampNeg))).toNatClampNeg)] [] (m_M_leaderHolds l D K q ((M_tp v), (M_rd v), (M_lf v), (M_cd v), ((M_s (M_rn v)), (M_spanNow (M_rn v)), (M_sizeNow (M_rn v)), x11), (M_ex v), (M_im v), (M_al v), (M_thrown v)) (32 : Int32) ((M_s (M_rn v)) ((x5 + ((M_codeA (M_cd v)) x2.toNatClampNeg))).toNatClampNeg) hc94) yv_X10_leaderHolds wd_1619 ⟨rfl, rfl⟩ (by decide) (fr_s (j := 0) rfl rfl rfl (fr_s (j := 1) rfl rfl rfl (fr_s (j := 2) rfl rfl rfl (fr_s (j := 3) rfl rfl rfl (fr_s (j := 4) rfl rfl rfl (fr_s (j := 5) rfl rfl rfl (fr_s (j := 6) rfl rfl rfl (fr_s (j := 7) rfl rfl rfl (fr_s (j := 8) rfl rfl rfl (fr_s (j := 9) rfl rfl rfl (fr_s (j := 10) rfl rfl rfl (fr_s (j := 11) rfl rfl rfl (fr_s (j := 12) rfl rfl rfl (fr_s (j := 13) rfl rfl rfl (fr_s (j := 14) rfl rfl rfl (fr_s (j := 15) rfl rfl rfl (fr_s (j := 16) rfl rfl rfl (fr_s (j := 17) rfl rfl rfl (fr_s (j := 18) rfl rfl rfl (fr_s (j := 19) rfl rfl rfl (fr_s (j := 20) rfl rfl rfl (fr_s (j := 21) rfl rfl rfl (fr_s (j := 22) rfl rfl rfl (fr_s (j := 23) rfl rfl rfl (fr_n))))))))))))))))))))))))) rfl (by decide) 0 rfl rfl rfl (Nat.le_of_ble_eq_true rfl) dX10_stepped_398 ?_
                    refine r_goto (pc := 401) (tgt := 424) cx dX10_stepped_401 (by decide) ?_
                    refine r_istore (pc := 424) (loc' := [(7, .int r92), (6, .int x10), (5, .int x6), (4, .int x5), (3, .int x4), (2, .int x2), (0, .ref (q 0)), (1, .int a1)]) cx dX10_stepped_424 (by decide) rfl ?_
                    refine r_goto (pc := 426) (tgt := 686) cx dX10_stepped_426 (by decide) ?_
                    refine r_loc (loc' := [(0, .ref (q 0)), (1, .int a1), (7, .int r92)]) [6, 7, 0] rfl ?_
                    exact hJ14 _ _ hf
                · have hf := ifn h83 hf
                  by_cases h95 : x4 = (15 : Int32)
                  · have hf := ifp h95 hf
                    refine r_tin (pc := 65) (tgt := 429) cx (15 : Int32) h95 dX10_stepped_65 (by decide) (by decide) rfl (by decide) ?_
                    refine r_aload_n (pc := 429) cx dX10_stepped_429 6 rfl ?_
                    refine r_get (pc := 430) cx cf_X10 0 26 rfl (by decide) rfl wd_1342 dX10_stepped_430 ?_
                    refine r_iload (pc := 433) cx dX10_stepped_433 2 rfl ?_
                    refine r_aload_n (pc := 435) cx dX10_stepped_435 6 rfl ?_
                    refine r_get (pc := 436) cx cf_X10 0 6 rfl (by decide) rfl wd_1322 dX10_stepped_436 ?_
                    refine r_iload_n (pc := 439) cx dX10_stepped_439 5 rfl ?_
                    obtain ⟨h96, hf⟩ := chk_of hf
                    refine r_iald (pc := 440) cx 5 rfl h96 dX10_stepped_440 ?_
                    refine r_iadd (pc := 441) cx dX10_stepped_441 ?_
                    refine r_iload (pc := 442) cx dX10_stepped_442 1 rfl ?_
                    refine r_i2d (pc := 444) cx dX10_stepped_444 ?_
                    obtain ⟨r97, hc98, hf⟩ := bd_of hf
                    refine r_Si (pc := 445) (ws' := [((q 0), ob 9 [.int (M_thrown v), .ref (q 1), .int (M_taped (M_tp v)), .ref (q 2), .ref (q 3), .ref (q 4), .ref (q 5), .ref (q 6), .ref (q 7), .ref (q 8), .ref (q 9), .ref (q 10), .ref (q 11), .ref (q 12), .ref (q 13), .ref (q 14), .int (M_lines (M_rd v)), .int (M_size (M_rd v)), .int (M_at (M_rd v)), .int (M_place (M_rd v)), .int (M_sort (M_rd v)), .int (M_value (M_rd v)), .int (M_fault (M_rd v)), .int (M_faultPlace (M_rd v)), .int (M_lastFault (M_lf v)), .int (M_lastPlace (M_lf v)), .ref (q 15), .ref (q 16), .ref (q 17), .ref (q 18), .int (M_hasImage (M_im v)), .int (M_spanNow (M_rn v)), .ref (q 19), .int x11, .int (M_alonePlace (M_al v)), .int (M_aloneSteps (M_al v)), .int (M_aloneOut (M_al v)), .ref (q 20), .ref (q 21), .ref (q 22), .ref (q 23), .int (M_shotAlarm (M_ex v)), .int (M_drawn (M_ex v))]), ((q 1), aI K 700 (M_tape (M_tp v))), ((q 2), aI K 20 (M_number (M_cd v))), ((q 3), aZ K 5 (M_isTold (M_rd v))), ((q 4), aI K 80 (M_codeSort (M_cd v))), ((q 5), aI K 80 (M_codeA (M_cd v))), ((q 6), aI K 80 (M_codeB (M_cd v))), ((q 7), aI K 80 (M_codeC (M_cd v))), ((q 8), aI K 80 (M_codeName (M_cd v))), ((q 9), aI K 80 (M_codePlace (M_cd v))), ((q 10), aI K 80 (M_codeTo (M_cd v))), ((q 11), aI K 280 (M_labelName (M_cd v))), ((q 12), aI K 280 (M_labelAt (M_cd v))), ((q 13), aI K 64 (M_data (M_cd v))), ((q 14), aZ K 32 (M_hasData (M_rd v))), ((q 15), aI K 314 (M_s (M_rn v))), ((q 16), aI K 314 (M_aside (M_ex v))), ((q 17), aI K 314 (M_further (M_ex v))), ((q 18), aI K 314 (M_image (M_im v))), ((q 19), aI K 3 (M_sizeNow (M_rn v))), ((q 20), aI K 8 (M_aloneRegister (M_al v))), ((q 21), aI K 4 (M_aloneReal (M_al v))), ((q 22), aI K 32 (M_aloneMemory (M_al v))), ((q 23), aI K 999 (M_aloneOutput (M_al v)))]) (nn := 0) cx [.double (FP.i2d x10)] [.int (x6 + ((M_codeA (M_cd v)) x2.toNatClampNeg)), .ref (q 15)] (m_M_cut l D K (FP.i2d x10) hc98) ys_X10_cut wd_1627 ⟨rfl, rfl⟩ (by decide) (fr_k (fr_k (fr_k (fr_k (fr_k (fr_k (fr_k (fr_k (fr_k (fr_k (fr_k (fr_k (fr_k (fr_k (fr_k (fr_k (fr_k (fr_k (fr_k (fr_k (fr_k (fr_k (fr_k (fr_k (fr_n))))))))))))))))))))))))) rfl (by decide) rfl (Nat.le_of_ble_eq_true rfl) dX10_stepped_445 ?_
                    obtain ⟨h99, hf⟩ := chk_of hf
                    obtain ⟨f100, ef100, hf⟩ := nm_of hf
                    refine r_iast (pc := 448) (ws' := [((q 0), ob 9 [.int (M_thrown v), .ref (q 1), .int (M_taped (M_tp v)), .ref (q 2), .ref (q 3), .ref (q 4), .ref (q 5), .ref (q 6), .ref (q 7), .ref (q 8), .ref (q 9), .ref (q 10), .ref (q 11), .ref (q 12), .ref (q 13), .ref (q 14), .int (M_lines (M_rd v)), .int (M_size (M_rd v)), .int (M_at (M_rd v)), .int (M_place (M_rd v)), .int (M_sort (M_rd v)), .int (M_value (M_rd v)), .int (M_fault (M_rd v)), .int (M_faultPlace (M_rd v)), .int (M_lastFault (M_lf v)), .int (M_lastPlace (M_lf v)), .ref (q 15), .ref (q 16), .ref (q 17), .ref (q 18), .int (M_hasImage (M_im v)), .int (M_spanNow (M_rn v)), .ref (q 19), .int x11, .int (M_alonePlace (M_al v)), .int (M_aloneSteps (M_al v)), .int (M_aloneOut (M_al v)), .ref (q 20), .ref (q 21), .ref (q 22), .ref (q 23), .int (M_shotAlarm (M_ex v)), .int (M_drawn (M_ex v))]), ((q 1), aI K 700 (M_tape (M_tp v))), ((q 2), aI K 20 (M_number (M_cd v))), ((q 3), aZ K 5 (M_isTold (M_rd v))), ((q 4), aI K 80 (M_codeSort (M_cd v))), ((q 5), aI K 80 (M_codeA (M_cd v))), ((q 6), aI K 80 (M_codeB (M_cd v))), ((q 7), aI K 80 (M_codeC (M_cd v))), ((q 8), aI K 80 (M_codeName (M_cd v))), ((q 9), aI K 80 (M_codePlace (M_cd v))), ((q 10), aI K 80 (M_codeTo (M_cd v))), ((q 11), aI K 280 (M_labelName (M_cd v))), ((q 12), aI K 280 (M_labelAt (M_cd v))), ((q 13), aI K 64 (M_data (M_cd v))), ((q 14), aZ K 32 (M_hasData (M_rd v))), ((q 15), aI K 314 f100), ((q 16), aI K 314 (M_aside (M_ex v))), ((q 17), aI K 314 (M_further (M_ex v))), ((q 18), aI K 314 (M_image (M_im v))), ((q 19), aI K 3 (M_sizeNow (M_rn v))), ((q 20), aI K 8 (M_aloneRegister (M_al v))), ((q 21), aI K 4 (M_aloneReal (M_al v))), ((q 22), aI K 32 (M_aloneMemory (M_al v))), ((q 23), aI K 999 (M_aloneOutput (M_al v)))]) cx 15 rfl h99 dX10_stepped_448 ef100 rfl ?_
                    refine r_goto (pc := 449) (tgt := 686) cx dX10_stepped_449 (by decide) ?_
                    refine r_loc (loc' := [(0, .ref (q 0)), (1, .int a1), (7, .int (0 : Int32))]) [6, 7, 0] rfl ?_
                    exact hJ14 _ _ hf
                  · have hf := ifn h95 hf
                    by_cases h101 : x4 = (16 : Int32)
                    · have hf := ifp h101 hf
                      refine r_tin (pc := 65) (tgt := 452) cx (16 : Int32) h101 dX10_stepped_65 (by decide) (by decide) rfl (by decide) ?_
                      refine r_aload_n (pc := 452) cx dX10_stepped_452 6 rfl ?_
                      refine r_get (pc := 453) cx cf_X10 0 26 rfl (by decide) rfl wd_1342 dX10_stepped_453 ?_
                      refine r_iload (pc := 456) cx dX10_stepped_456 3 rfl ?_
                      refine r_aload_n (pc := 458) cx dX10_stepped_458 6 rfl ?_
                      refine r_get (pc := 459) cx cf_X10 0 6 rfl (by decide) rfl wd_1322 dX10_stepped_459 ?_
                      refine r_iload_n (pc := 462) cx dX10_stepped_462 5 rfl ?_
                      obtain ⟨h102, hf⟩ := chk_of hf
                      refine r_iald (pc := 463) cx 5 rfl h102 dX10_stepped_463 ?_
                      refine r_iadd (pc := 464) cx dX10_stepped_464 ?_
                      refine r_aload_n (pc := 465) cx dX10_stepped_465 6 rfl ?_
                      refine r_get (pc := 466) cx cf_X10 0 26 rfl (by decide) rfl wd_1342 dX10_stepped_466 ?_
                      refine r_iload (pc := 469) cx dX10_stepped_469 2 rfl ?_
                      refine r_aload_n (pc := 471) cx dX10_stepped_471 6 rfl ?_
                      refine r_get (pc := 472) cx cf_X10 0 7 rfl (by decide) rfl wd_1323 dX10_stepped_472 ?_
                      refine r_iload_n (pc := 475) cx dX10_stepped_475 5 rfl ?_
                      obtain ⟨h103, hf⟩ := chk_of hf
                      refine r_iald (pc := 476) cx 6 rfl h103 dX10_stepped_476 ?_
                      refine r_iadd (pc := 477) cx dX10_stepped_477 ?_
                      obtain ⟨h104, hf⟩ := chk_of hf
                      refine r_iald (pc := 478) cx 15 rfl h104 dX10_stepped_478 ?_
                      obtain ⟨r105, hc106, hf⟩ := bd_of hf
                      refine r_Si (pc := 479) (ws' := [((q 0), ob 9 [.int (M_thrown v), .ref (q 1), .int (M_taped (M_tp v)), .ref (q 2), .ref (q 3), .ref (q 4), .ref (q 5), .ref (q 6), .ref (q 7), .ref (q 8), .ref (q 9), .ref (q 10), .ref (q 11), .ref (q 12), .ref (q 13), .ref (q 14), .int (M_lines (M_rd v)), .int (M_size (M_rd v)), .int (M_at (M_rd v)), .int (M_place (M_rd v)), .int (M_sort (M_rd v)), .int (M_value (M_rd v)), .int (M_fault (M_rd v)), .int (M_faultPlace (M_rd v)), .int (M_lastFault (M_lf v)), .int (M_lastPlace (M_lf v)), .ref (q 15), .ref (q 16), .ref (q 17), .ref (q 18), .int (M_hasImage (M_im v)), .int (M_spanNow (M_rn v)), .ref (q 19), .int x11, .int (M_alonePlace (M_al v)), .int (M_aloneSteps (M_al v)), .int (M_aloneOut (M_al v)), .ref (q 20), .ref (q 21), .ref (q 22), .ref (q 23), .int (M_shotAlarm (M_ex v)), .int (M_drawn (M_ex v))]), ((q 1), aI K 700 (M_tape (M_tp v))), ((q 2), aI K 20 (M_number (M_cd v))), ((q 3), aZ K 5 (M_isTold (M_rd v))), ((q 4), aI K 80 (M_codeSort (M_cd v))), ((q 5), aI K 80 (M_codeA (M_cd v))), ((q 6), aI K 80 (M_codeB (M_cd v))), ((q 7), aI K 80 (M_codeC (M_cd v))), ((q 8), aI K 80 (M_codeName (M_cd v))), ((q 9), aI K 80 (M_codePlace (M_cd v))), ((q 10), aI K 80 (M_codeTo (M_cd v))), ((q 11), aI K 280 (M_labelName (M_cd v))), ((q 12), aI K 280 (M_labelAt (M_cd v))), ((q 13), aI K 64 (M_data (M_cd v))), ((q 14), aZ K 32 (M_hasData (M_rd v))), ((q 15), aI K 314 (M_s (M_rn v))), ((q 16), aI K 314 (M_aside (M_ex v))), ((q 17), aI K 314 (M_further (M_ex v))), ((q 18), aI K 314 (M_image (M_im v))), ((q 19), aI K 3 (M_sizeNow (M_rn v))), ((q 20), aI K 8 (M_aloneRegister (M_al v))), ((q 21), aI K 4 (M_aloneReal (M_al v))), ((q 22), aI K 32 (M_aloneMemory (M_al v))), ((q 23), aI K 999 (M_aloneOutput (M_al v)))]) (nn := 0) cx [.int ((M_s (M_rn v)) ((x6 + ((M_codeB (M_cd v)) x2.toNatClampNeg))).toNatClampNeg)] [.int (x5 + ((M_codeA (M_cd v)) x2.toNatClampNeg)), .ref (q 15)] (m_M_whole l D K ((M_s (M_rn v)) ((x6 + ((M_codeB (M_cd v)) x2.toNatClampNeg))).toNatClampNeg) hc106) ys_X10_whole wd_1640 ⟨rfl, rfl⟩ (by decide) (fr_k (fr_k (fr_k (fr_k (fr_k (fr_k (fr_k (fr_k (fr_k (fr_k (fr_k (fr_k (fr_k (fr_k (fr_k (fr_k (fr_k (fr_k (fr_k (fr_k (fr_k (fr_k (fr_k (fr_k (fr_n))))))))))))))))))))))))) rfl (by decide) rfl (Nat.le_of_ble_eq_true rfl) dX10_stepped_479 ?_
                      obtain ⟨h107, hf⟩ := chk_of hf
                      obtain ⟨f108, ef108, hf⟩ := nm_of hf
                      refine r_iast (pc := 482) (ws' := [((q 0), ob 9 [.int (M_thrown v), .ref (q 1), .int (M_taped (M_tp v)), .ref (q 2), .ref (q 3), .ref (q 4), .ref (q 5), .ref (q 6), .ref (q 7), .ref (q 8), .ref (q 9), .ref (q 10), .ref (q 11), .ref (q 12), .ref (q 13), .ref (q 14), .int (M_lines (M_rd v)), .int (M_size (M_rd v)), .int (M_at (M_rd v)), .int (M_place (M_rd v)), .int (M_sort (M_rd v)), .int (M_value (M_rd v)), .int (M_fault (M_rd v)), .int (M_faultPlace (M_rd v)), .int (M_lastFault (M_lf v)), .int (M_lastPlace (M_lf v)), .ref (q 15), .ref (q 16), .ref (q 17), .ref (q 18), .int (M_hasImage (M_im v)), .int (M_spanNow (M_rn v)), .ref (q 19), .int x11, .int (M_alonePlace (M_al v)), .int (M_aloneSteps (M_al v)), .int (M_aloneOut (M_al v)), .ref (q 20), .ref (q 21), .ref (q 22), .ref (q 23), .int (M_shotAlarm (M_ex v)), .int (M_drawn (M_ex v))]), ((q 1), aI K 700 (M_tape (M_tp v))), ((q 2), aI K 20 (M_number (M_cd v))), ((q 3), aZ K 5 (M_isTold (M_rd v))), ((q 4), aI K 80 (M_codeSort (M_cd v))), ((q 5), aI K 80 (M_codeA (M_cd v))), ((q 6), aI K 80 (M_codeB (M_cd v))), ((q 7), aI K 80 (M_codeC (M_cd v))), ((q 8), aI K 80 (M_codeName (M_cd v))), ((q 9), aI K 80 (M_codePlace (M_cd v))), ((q 10), aI K 80 (M_codeTo (M_cd v))), ((q 11), aI K 280 (M_labelName (M_cd v))), ((q 12), aI K 280 (M_labelAt (M_cd v))), ((q 13), aI K 64 (M_data (M_cd v))), ((q 14), aZ K 32 (M_hasData (M_rd v))), ((q 15), aI K 314 f108), ((q 16), aI K 314 (M_aside (M_ex v))), ((q 17), aI K 314 (M_further (M_ex v))), ((q 18), aI K 314 (M_image (M_im v))), ((q 19), aI K 3 (M_sizeNow (M_rn v))), ((q 20), aI K 8 (M_aloneRegister (M_al v))), ((q 21), aI K 4 (M_aloneReal (M_al v))), ((q 22), aI K 32 (M_aloneMemory (M_al v))), ((q 23), aI K 999 (M_aloneOutput (M_al v)))]) cx 15 rfl h107 dX10_stepped_482 ef108 rfl ?_
                      refine r_goto (pc := 483) (tgt := 686) cx dX10_stepped_483 (by decide) ?_
                      refine r_loc (loc' := [(0, .ref (q 0)), (1, .int a1), (7, .int (0 : Int32))]) [6, 7, 0] rfl ?_
                      exact hJ14 _ _ hf
                    · have hf := ifn h101 hf
                      by_cases h109 : x4 = (17 : Int32)
                      · have hf := ifp h109 hf
                        refine r_tin (pc := 65) (tgt := 486) cx (17 : Int32) h109 dX10_stepped_65 (by decide) (by decide) rfl (by decide) ?_
                        refine r_aload_n (pc := 486) cx dX10_stepped_486 6 rfl ?_
                        refine r_get (pc := 487) cx cf_X10 0 26 rfl (by decide) rfl wd_1342 dX10_stepped_487 ?_
                        refine r_iload (pc := 490) cx dX10_stepped_490 3 rfl ?_
                        refine r_aload_n (pc := 492) cx dX10_stepped_492 6 rfl ?_
                        refine r_get (pc := 493) cx cf_X10 0 6 rfl (by decide) rfl wd_1322 dX10_stepped_493 ?_
                        refine r_iload_n (pc := 496) cx dX10_stepped_496 5 rfl ?_
                        obtain ⟨h110, hf⟩ := chk_of hf
                        refine r_iald (pc := 497) cx 5 rfl h110 dX10_stepped_497 ?_
                        refine r_iadd (pc := 498) cx dX10_stepped_498 ?_
                        refine r_aload_n (pc := 499) cx dX10_stepped_499 6 rfl ?_
                        refine r_get (pc := 500) cx cf_X10 0 26 rfl (by decide) rfl wd_1342 dX10_stepped_500 ?_
                        refine r_iload (pc := 503) cx dX10_stepped_503 2 rfl ?_
                        refine r_aload_n (pc := 505) cx dX10_stepped_505 6 rfl ?_
                        refine r_get (pc := 506) cx cf_X10 0 7 rfl (by decide) rfl wd_1323 dX10_stepped_506 ?_
                        refine r_iload_n (pc := 509) cx dX10_stepped_509 5 rfl ?_
                        obtain ⟨h111, hf⟩ := chk_of hf
                        refine r_iald (pc := 510) cx 6 rfl h111 dX10_stepped_510 ?_
                        refine r_iadd (pc := 511) cx dX10_stepped_511 ?_
                        obtain ⟨h112, hf⟩ := chk_of hf
                        refine r_iald (pc := 512) cx 15 rfl h112 dX10_stepped_512 ?_
                        obtain ⟨x113, ex113, hf⟩ := nm_of hf
                        refine r_nm ex113 ?_
                        obtain ⟨h114, hf⟩ := chk_of hf
                        obtain ⟨f115, ef115, hf⟩ := nm_of hf
                        refine r_iast (pc := 513) (ws' := [((q 0), ob 9 [.int (M_thrown v), .ref (q 1), .int (M_taped (M_tp v)), .ref (q 2), .ref (q 3), .ref (q 4), .ref (q 5), .ref (q 6), .ref (q 7), .ref (q 8), .ref (q 9), .ref (q 10), .ref (q 11), .ref (q 12), .ref (q 13), .ref (q 14), .int (M_lines (M_rd v)), .int (M_size (M_rd v)), .int (M_at (M_rd v)), .int (M_place (M_rd v)), .int (M_sort (M_rd v)), .int (M_value (M_rd v)), .int (M_fault (M_rd v)), .int (M_faultPlace (M_rd v)), .int (M_lastFault (M_lf v)), .int (M_lastPlace (M_lf v)), .ref (q 15), .ref (q 16), .ref (q 17), .ref (q 18), .int (M_hasImage (M_im v)), .int (M_spanNow (M_rn v)), .ref (q 19), .int x11, .int (M_alonePlace (M_al v)), .int (M_aloneSteps (M_al v)), .int (M_aloneOut (M_al v)), .ref (q 20), .ref (q 21), .ref (q 22), .ref (q 23), .int (M_shotAlarm (M_ex v)), .int (M_drawn (M_ex v))]), ((q 1), aI K 700 (M_tape (M_tp v))), ((q 2), aI K 20 (M_number (M_cd v))), ((q 3), aZ K 5 (M_isTold (M_rd v))), ((q 4), aI K 80 (M_codeSort (M_cd v))), ((q 5), aI K 80 (M_codeA (M_cd v))), ((q 6), aI K 80 (M_codeB (M_cd v))), ((q 7), aI K 80 (M_codeC (M_cd v))), ((q 8), aI K 80 (M_codeName (M_cd v))), ((q 9), aI K 80 (M_codePlace (M_cd v))), ((q 10), aI K 80 (M_codeTo (M_cd v))), ((q 11), aI K 280 (M_labelName (M_cd v))), ((q 12), aI K 280 (M_labelAt (M_cd v))), ((q 13), aI K 64 (M_data (M_cd v))), ((q 14), aZ K 32 (M_hasData (M_rd v))), ((q 15), aI K 314 f115), ((q 16), aI K 314 (M_aside (M_ex v))), ((q 17), aI K 314 (M_further (M_ex v))), ((q 18), aI K 314 (M_image (M_im v))), ((q 19), aI K 3 (M_sizeNow (M_rn v))), ((q 20), aI K 8 (M_aloneRegister (M_al v))), ((q 21), aI K 4 (M_aloneReal (M_al v))), ((q 22), aI K 32 (M_aloneMemory (M_al v))), ((q 23), aI K 999 (M_aloneOutput (M_al v)))]) cx 15 rfl h114 dX10_stepped_513 ef115 rfl ?_
                        refine r_goto (pc := 514) (tgt := 686) cx dX10_stepped_514 (by decide) ?_
                        refine r_loc (loc' := [(0, .ref (q 0)), (1, .int a1), (7, .int (0 : Int32))]) [6, 7, 0] rfl ?_
                        exact hJ14 _ _ hf
                      · have hf := ifn h109 hf
                        by_cases h116 : x4 = (18 : Int32)
                        · have hf := ifp h116 hf
                          refine r_tin (pc := 65) (tgt := 517) cx (18 : Int32) h116 dX10_stepped_65 (by decide) (by decide) rfl (by decide) ?_
                          refine r_aload_n (pc := 517) cx dX10_stepped_517 6 rfl ?_
                          refine r_get (pc := 518) cx cf_X10 0 26 rfl (by decide) rfl wd_1342 dX10_stepped_518 ?_
                          refine r_iload (pc := 521) cx dX10_stepped_521 2 rfl ?_
                          refine r_aload_n (pc := 523) cx dX10_stepped_523 6 rfl ?_
                          refine r_get (pc := 524) cx cf_X10 0 6 rfl (by decide) rfl wd_1322 dX10_stepped_524 ?_
                          refine r_iload_n (pc := 527) cx dX10_stepped_527 5 rfl ?_
                          obtain ⟨h117, hf⟩ := chk_of hf
                          refine r_iald (pc := 528) cx 5 rfl h117 dX10_stepped_528 ?_
                          refine r_iadd (pc := 529) cx dX10_stepped_529 ?_
                          refine r_aload_n (pc := 530) cx dX10_stepped_530 6 rfl ?_
                          refine r_get (pc := 531) cx cf_X10 0 26 rfl (by decide) rfl wd_1342 dX10_stepped_531 ?_
                          refine r_iload (pc := 534) cx dX10_stepped_534 2 rfl ?_
                          refine r_aload_n (pc := 536) cx dX10_stepped_536 6 rfl ?_
                          refine r_get (pc := 537) cx cf_X10 0 7 rfl (by decide) rfl wd_1323 dX10_stepped_537 ?_
                          refine r_iload_n (pc := 540) cx dX10_stepped_540 5 rfl ?_
                          obtain ⟨h118, hf⟩ := chk_of hf
                          refine r_iald (pc := 541) cx 6 rfl h118 dX10_stepped_541 ?_
                          refine r_iadd (pc := 542) cx dX10_stepped_542 ?_
                          obtain ⟨h119, hf⟩ := chk_of hf
                          refine r_iald (pc := 543) cx 15 rfl h119 dX10_stepped_543 ?_
                          refine r_aload_n (pc := 544) cx dX10_stepped_544 6 rfl ?_
                          refine r_get (pc := 545) cx cf_X10 0 26 rfl (by decide) rfl wd_1342 dX10_stepped_545 ?_
                          refine r_iload (pc := 548) cx dX10_stepped_548 2 rfl ?_
                          refine r_aload_n (pc := 550) cx dX10_stepped_550 6 rfl ?_
                          refine r_get (pc := 551) cx cf_X10 0 8 rfl (by decide) rfl wd_1324 dX10_stepped_551 ?_
                          refine r_iload_n (pc := 554) cx dX10_stepped_554 5 rfl ?_
                          obtain ⟨h120, hf⟩ := chk_of hf
                          refine r_iald (pc := 555) cx 7 rfl h120 dX10_stepped_555 ?_
                          refine r_iadd (pc := 556) cx dX10_stepped_556 ?_
                          obtain ⟨h121, hf⟩ := chk_of hf
                          refine r_iald (pc := 557) cx 15 rfl h121 dX10_stepped_557 ?_
                          obtain ⟨r122, hc123, hf⟩ := bd_of hf
                          refine r_Si (pc := 558) (ws' := [((q 0), ob 9 [.int (M_thrown v), .ref (q 1), .int (M_taped (M_tp v)), .ref (q 2), .ref (q 3), .ref (q 4), .ref (q 5), .ref (q 6), .ref (q 7), .ref (q 8), .ref (q 9), .ref (q 10), .ref (q 11), .ref (q 12), .ref (q 13), .ref (q 14), .int (M_lines (M_rd v)), .int (M_size (M_rd v)), .int (M_at (M_rd v)), .int (M_place (M_rd v)), .int (M_sort (M_rd v)), .int (M_value (M_rd v)), .int (M_fault (M_rd v)), .int (M_faultPlace (M_rd v)), .int (M_lastFault (M_lf v)), .int (M_lastPlace (M_lf v)), .ref (q 15), .ref (q 16), .ref (q 17), .ref (q 18), .int (M_hasImage (M_im v)), .int (M_spanNow (M_rn v)), .ref (q 19), .int x11, .int (M_alonePlace (M_al v)), .int (M_aloneSteps (M_al v)), .int (M_aloneOut (M_al v)), .ref (q 20), .ref (q 21), .ref (q 22), .ref (q 23), .int (M_shotAlarm (M_ex v)), .int (M_drawn (M_ex v))]), ((q 1), aI K 700 (M_tape (M_tp v))), ((q 2), aI K 20 (M_number (M_cd v))), ((q 3), aZ K 5 (M_isTold (M_rd v))), ((q 4), aI K 80 (M_codeSort (M_cd v))), ((q 5), aI K 80 (M_codeA (M_cd v))), ((q 6), aI K 80 (M_codeB (M_cd v))), ((q 7), aI K 80 (M_codeC (M_cd v))), ((q 8), aI K 80 (M_codeName (M_cd v))), ((q 9), aI K 80 (M_codePlace (M_cd v))), ((q 10), aI K 80 (M_codeTo (M_cd v))), ((q 11), aI K 280 (M_labelName (M_cd v))), ((q 12), aI K 280 (M_labelAt (M_cd v))), ((q 13), aI K 64 (M_data (M_cd v))), ((q 14), aZ K 32 (M_hasData (M_rd v))), ((q 15), aI K 314 (M_s (M_rn v))), ((q 16), aI K 314 (M_aside (M_ex v))), ((q 17), aI K 314 (M_further (M_ex v))), ((q 18), aI K 314 (M_image (M_im v))), ((q 19), aI K 3 (M_sizeNow (M_rn v))), ((q 20), aI K 8 (M_aloneRegister (M_al v))), ((q 21), aI K 4 (M_aloneReal (M_al v))), ((q 22), aI K 32 (M_aloneMemory (M_al v))), ((q 23), aI K 999 (M_aloneOutput (M_al v)))]) (nn := 0) cx [.int ((M_s (M_rn v)) ((x6 + ((M_codeB (M_cd v)) x2.toNatClampNeg))).toNatClampNeg), .int ((M_s (M_rn v)) ((x6 + ((M_codeC (M_cd v)) x2.toNatClampNeg))).toNatClampNeg)] [.int (x6 + ((M_codeA (M_cd v)) x2.toNatClampNeg)), .ref (q 15)] (m_M_added l D K ((M_s (M_rn v)) ((x6 + ((M_codeB (M_cd v)) x2.toNatClampNeg))).toNatClampNeg) ((M_s (M_rn v)) ((x6 + ((M_codeC (M_cd v)) x2.toNatClampNeg))).toNatClampNeg) hc123) ys_X10_added wd_1653 ⟨rfl, rfl⟩ (by decide) (fr_k (fr_k (fr_k (fr_k (fr_k (fr_k (fr_k (fr_k (fr_k (fr_k (fr_k (fr_k (fr_k (fr_k (fr_k (fr_k (fr_k (fr_k (fr_k (fr_k (fr_k (fr_k (fr_k (fr_k (fr_n))))))))))))))))))))))))) rfl (by decide) rfl (Nat.le_of_ble_eq_true rfl) dX10_stepped_558 ?_
                          obtain ⟨h124, hf⟩ := chk_of hf
                          obtain ⟨f125, ef125, hf⟩ := nm_of hf
                          refine r_iast (pc := 561) (ws' := [((q 0), ob 9 [.int (M_thrown v), .ref (q 1), .int (M_taped (M_tp v)), .ref (q 2), .ref (q 3), .ref (q 4), .ref (q 5), .ref (q 6), .ref (q 7), .ref (q 8), .ref (q 9), .ref (q 10), .ref (q 11), .ref (q 12), .ref (q 13), .ref (q 14), .int (M_lines (M_rd v)), .int (M_size (M_rd v)), .int (M_at (M_rd v)), .int (M_place (M_rd v)), .int (M_sort (M_rd v)), .int (M_value (M_rd v)), .int (M_fault (M_rd v)), .int (M_faultPlace (M_rd v)), .int (M_lastFault (M_lf v)), .int (M_lastPlace (M_lf v)), .ref (q 15), .ref (q 16), .ref (q 17), .ref (q 18), .int (M_hasImage (M_im v)), .int (M_spanNow (M_rn v)), .ref (q 19), .int x11, .int (M_alonePlace (M_al v)), .int (M_aloneSteps (M_al v)), .int (M_aloneOut (M_al v)), .ref (q 20), .ref (q 21), .ref (q 22), .ref (q 23), .int (M_shotAlarm (M_ex v)), .int (M_drawn (M_ex v))]), ((q 1), aI K 700 (M_tape (M_tp v))), ((q 2), aI K 20 (M_number (M_cd v))), ((q 3), aZ K 5 (M_isTold (M_rd v))), ((q 4), aI K 80 (M_codeSort (M_cd v))), ((q 5), aI K 80 (M_codeA (M_cd v))), ((q 6), aI K 80 (M_codeB (M_cd v))), ((q 7), aI K 80 (M_codeC (M_cd v))), ((q 8), aI K 80 (M_codeName (M_cd v))), ((q 9), aI K 80 (M_codePlace (M_cd v))), ((q 10), aI K 80 (M_codeTo (M_cd v))), ((q 11), aI K 280 (M_labelName (M_cd v))), ((q 12), aI K 280 (M_labelAt (M_cd v))), ((q 13), aI K 64 (M_data (M_cd v))), ((q 14), aZ K 32 (M_hasData (M_rd v))), ((q 15), aI K 314 f125), ((q 16), aI K 314 (M_aside (M_ex v))), ((q 17), aI K 314 (M_further (M_ex v))), ((q 18), aI K 314 (M_image (M_im v))), ((q 19), aI K 3 (M_sizeNow (M_rn v))), ((q 20), aI K 8 (M_aloneRegister (M_al v))), ((q 21), aI K 4 (M_aloneReal (M_al v))), ((q 22), aI K 32 (M_aloneMemory (M_al v))), ((q 23), aI K 999 (M_aloneOutput (M_al v)))]) cx 15 rfl h124 dX10_stepped_561 ef125 rfl ?_
                          refine r_goto (pc := 562) (tgt := 686) cx dX10_stepped_562 (by decide) ?_
                          refine r_loc (loc' := [(0, .ref (q 0)), (1, .int a1), (7, .int (0 : Int32))]) [6, 7, 0] rfl ?_
                          exact hJ14 _ _ hf
                        · have hf := ifn h116 hf
                          by_cases h126 : x4 = (19 : Int32)
                          · have hf := ifp h126 hf
                            refine r_tin (pc := 65) (tgt := 565) cx (19 : Int32) h126 dX10_stepped_65 (by decide) (by decide) rfl (by decide) ?_
                            refine r_aload_n (pc := 565) cx dX10_stepped_565 6 rfl ?_
                            refine r_get (pc := 566) cx cf_X10 0 26 rfl (by decide) rfl wd_1342 dX10_stepped_566 ?_
                            refine r_iload (pc := 569) cx dX10_stepped_569 2 rfl ?_
                            refine r_aload_n (pc := 571) cx dX10_stepped_571 6 rfl ?_
                            refine r_get (pc := 572) cx cf_X10 0 6 rfl (by decide) rfl wd_1322 dX10_stepped_572 ?_
                            refine r_iload_n (pc := 575) cx dX10_stepped_575 5 rfl ?_
                            obtain ⟨h127, hf⟩ := chk_of hf
                            refine r_iald (pc := 576) cx 5 rfl h127 dX10_stepped_576 ?_
                            refine r_iadd (pc := 577) cx dX10_stepped_577 ?_
                            refine r_aload_n (pc := 578) cx dX10_stepped_578 6 rfl ?_
                            refine r_get (pc := 579) cx cf_X10 0 26 rfl (by decide) rfl wd_1342 dX10_stepped_579 ?_
                            refine r_iload (pc := 582) cx dX10_stepped_582 2 rfl ?_
                            refine r_aload_n (pc := 584) cx dX10_stepped_584 6 rfl ?_
                            refine r_get (pc := 585) cx cf_X10 0 7 rfl (by decide) rfl wd_1323 dX10_stepped_585 ?_
                            refine r_iload_n (pc := 588) cx dX10_stepped_588 5 rfl ?_
                            obtain ⟨h128, hf⟩ := chk_of hf
                            refine r_iald (pc := 589) cx 6 rfl h128 dX10_stepped_589 ?_
                            refine r_iadd (pc := 590) cx dX10_stepped_590 ?_
                            obtain ⟨h129, hf⟩ := chk_of hf
                            refine r_iald (pc := 591) cx 15 rfl h129 dX10_stepped_591 ?_
                            refine r_aload_n (pc := 592) cx dX10_stepped_592 6 rfl ?_
                            refine r_get (pc := 593) cx cf_X10 0 26 rfl (by decide) rfl wd_1342 dX10_stepped_593 ?_
                            refine r_iload (pc := 596) cx dX10_stepped_596 2 rfl ?_
                            refine r_aload_n (pc := 598) cx dX10_stepped_598 6 rfl ?_
                            refine r_get (pc := 599) cx cf_X10 0 8 rfl (by decide) rfl wd_1324 dX10_stepped_599 ?_
                            refine r_iload_n (pc := 602) cx dX10_stepped_602 5 rfl ?_
                            obtain ⟨h130, hf⟩ := chk_of hf
                            refine r_iald (pc := 603) cx 7 rfl h130 dX10_stepped_603 ?_
                            refine r_iadd (pc := 604) cx dX10_stepped_604 ?_
                            obtain ⟨h131, hf⟩ := chk_of hf
                            refine r_iald (pc := 605) cx 15 rfl h131 dX10_stepped_605 ?_
                            obtain ⟨r132, hc133, hf⟩ := bd_of hf
                            refine r_Si (pc := 606) (ws' := [((q 0), ob 9 [.int (M_thrown v), .ref (q 1), .int (M_taped (M_tp v)), .ref (q 2), .ref (q 3), .ref (q 4), .ref (q 5), .ref (q 6), .ref (q 7), .ref (q 8), .ref (q 9), .ref (q 10), .ref (q 11), .ref (q 12), .ref (q 13), .ref (q 14), .int (M_lines (M_rd v)), .int (M_size (M_rd v)), .int (M_at (M_rd v)), .int (M_place (M_rd v)), .int (M_sort (M_rd v)), .int (M_value (M_rd v)), .int (M_fault (M_rd v)), .int (M_faultPlace (M_rd v)), .int (M_lastFault (M_lf v)), .int (M_lastPlace (M_lf v)), .ref (q 15), .ref (q 16), .ref (q 17), .ref (q 18), .int (M_hasImage (M_im v)), .int (M_spanNow (M_rn v)), .ref (q 19), .int x11, .int (M_alonePlace (M_al v)), .int (M_aloneSteps (M_al v)), .int (M_aloneOut (M_al v)), .ref (q 20), .ref (q 21), .ref (q 22), .ref (q 23), .int (M_shotAlarm (M_ex v)), .int (M_drawn (M_ex v))]), ((q 1), aI K 700 (M_tape (M_tp v))), ((q 2), aI K 20 (M_number (M_cd v))), ((q 3), aZ K 5 (M_isTold (M_rd v))), ((q 4), aI K 80 (M_codeSort (M_cd v))), ((q 5), aI K 80 (M_codeA (M_cd v))), ((q 6), aI K 80 (M_codeB (M_cd v))), ((q 7), aI K 80 (M_codeC (M_cd v))), ((q 8), aI K 80 (M_codeName (M_cd v))), ((q 9), aI K 80 (M_codePlace (M_cd v))), ((q 10), aI K 80 (M_codeTo (M_cd v))), ((q 11), aI K 280 (M_labelName (M_cd v))), ((q 12), aI K 280 (M_labelAt (M_cd v))), ((q 13), aI K 64 (M_data (M_cd v))), ((q 14), aZ K 32 (M_hasData (M_rd v))), ((q 15), aI K 314 (M_s (M_rn v))), ((q 16), aI K 314 (M_aside (M_ex v))), ((q 17), aI K 314 (M_further (M_ex v))), ((q 18), aI K 314 (M_image (M_im v))), ((q 19), aI K 3 (M_sizeNow (M_rn v))), ((q 20), aI K 8 (M_aloneRegister (M_al v))), ((q 21), aI K 4 (M_aloneReal (M_al v))), ((q 22), aI K 32 (M_aloneMemory (M_al v))), ((q 23), aI K 999 (M_aloneOutput (M_al v)))]) (nn := 0) cx [.int ((M_s (M_rn v)) ((x6 + ((M_codeB (M_cd v)) x2.toNatClampNeg))).toNatClampNeg), .int ((M_s (M_rn v)) ((x6 + ((M_codeC (M_cd v)) x2.toNatClampNeg))).toNatClampNeg)] [.int (x6 + ((M_codeA (M_cd v)) x2.toNatClampNeg)), .ref (q 15)] (m_M_multiplied l D K ((M_s (M_rn v)) ((x6 + ((M_codeB (M_cd v)) x2.toNatClampNeg))).toNatClampNeg) ((M_s (M_rn v)) ((x6 + ((M_codeC (M_cd v)) x2.toNatClampNeg))).toNatClampNeg) hc133) ys_X10_multiplied wd_1657 ⟨rfl, rfl⟩ (by decide) (fr_k (fr_k (fr_k (fr_k (fr_k (fr_k (fr_k (fr_k (fr_k (fr_k (fr_k (fr_k (fr_k (fr_k (fr_k (fr_k (fr_k (fr_k (fr_k (fr_k (fr_k (fr_k (fr_k (fr_k (fr_n))))))))))))))))))))))))) rfl (by decide) rfl (Nat.le_of_ble_eq_true rfl) dX10_stepped_606 ?_
                            obtain ⟨h134, hf⟩ := chk_of hf
                            obtain ⟨f135, ef135, hf⟩ := nm_of hf
                            refine r_iast (pc := 609) (ws' := [((q 0), ob 9 [.int (M_thrown v), .ref (q 1), .int (M_taped (M_tp v)), .ref (q 2), .ref (q 3), .ref (q 4), .ref (q 5), .ref (q 6), .ref (q 7), .ref (q 8), .ref (q 9), .ref (q 10), .ref (q 11), .ref (q 12), .ref (q 13), .ref (q 14), .int (M_lines (M_rd v)), .int (M_size (M_rd v)), .int (M_at (M_rd v)), .int (M_place (M_rd v)), .int (M_sort (M_rd v)), .int (M_value (M_rd v)), .int (M_fault (M_rd v)), .int (M_faultPlace (M_rd v)), .int (M_lastFault (M_lf v)), .int (M_lastPlace (M_lf v)), .ref (q 15), .ref (q 16), .ref (q 17), .ref (q 18), .int (M_hasImage (M_im v)), .int (M_spanNow (M_rn v)), .ref (q 19), .int x11, .int (M_alonePlace (M_al v)), .int (M_aloneSteps (M_al v)), .int (M_aloneOut (M_al v)), .ref (q 20), .ref (q 21), .ref (q 22), .ref (q 23), .int (M_shotAlarm (M_ex v)), .int (M_drawn (M_ex v))]), ((q 1), aI K 700 (M_tape (M_tp v))), ((q 2), aI K 20 (M_number (M_cd v))), ((q 3), aZ K 5 (M_isTold (M_rd v))), ((q 4), aI K 80 (M_codeSort (M_cd v))), ((q 5), aI K 80 (M_codeA (M_cd v))), ((q 6), aI K 80 (M_codeB (M_cd v))), ((q 7), aI K 80 (M_codeC (M_cd v))), ((q 8), aI K 80 (M_codeName (M_cd v))), ((q 9), aI K 80 (M_codePlace (M_cd v))), ((q 10), aI K 80 (M_codeTo (M_cd v))), ((q 11), aI K 280 (M_labelName (M_cd v))), ((q 12), aI K 280 (M_labelAt (M_cd v))), ((q 13), aI K 64 (M_data (M_cd v))), ((q 14), aZ K 32 (M_hasData (M_rd v))), ((q 15), aI K 314 f135), ((q 16), aI K 314 (M_aside (M_ex v))), ((q 17), aI K 314 (M_further (M_ex v))), ((q 18), aI K 314 (M_image (M_im v))), ((q 19), aI K 3 (M_sizeNow (M_rn v))), ((q 20), aI K 8 (M_aloneRegister (M_al v))), ((q 21), aI K 4 (M_aloneReal (M_al v))), ((q 22), aI K 32 (M_aloneMemory (M_al v))), ((q 23), aI K 999 (M_aloneOutput (M_al v)))]) cx 15 rfl h134 dX10_stepped_609 ef135 rfl ?_
                            refine r_goto (pc := 610) (tgt := 686) cx dX10_stepped_610 (by decide) ?_
                            refine r_loc (loc' := [(0, .ref (q 0)), (1, .int a1), (7, .int (0 : Int32))]) [6, 7, 0] rfl ?_
                            exact hJ14 _ _ hf
                          · have hf := ifn h126 hf
                            by_cases h136 : x4 = (20 : Int32)
                            · have hf := ifp h136 hf
                              refine r_tin (pc := 65) (tgt := 613) cx (20 : Int32) h136 dX10_stepped_65 (by decide) (by decide) rfl (by decide) ?_
                              refine r_aload_n (pc := 613) cx dX10_stepped_613 6 rfl ?_
                              refine r_aload_n (pc := 614) cx dX10_stepped_614 6 rfl ?_
                              refine r_get (pc := 615) cx cf_X10 0 11 rfl (by decide) rfl wd_1327 dX10_stepped_615 ?_
                              refine r_iload_n (pc := 618) cx dX10_stepped_618 5 rfl ?_
                              obtain ⟨h137, hf⟩ := chk_of hf
                              refine r_iald (pc := 619) cx 10 rfl h137 dX10_stepped_619 ?_
                              obtain ⟨x138, ex138, hf⟩ := nm_of hf
                              refine r_nm ex138 ?_
                              refine r_putI (pc := 620) (ws' := [((q 0), ob 9 [.int (M_thrown v), .ref (q 1), .int (M_taped (M_tp v)), .ref (q 2), .ref (q 3), .ref (q 4), .ref (q 5), .ref (q 6), .ref (q 7), .ref (q 8), .ref (q 9), .ref (q 10), .ref (q 11), .ref (q 12), .ref (q 13), .ref (q 14), .int (M_lines (M_rd v)), .int (M_size (M_rd v)), .int (M_at (M_rd v)), .int (M_place (M_rd v)), .int (M_sort (M_rd v)), .int (M_value (M_rd v)), .int (M_fault (M_rd v)), .int (M_faultPlace (M_rd v)), .int (M_lastFault (M_lf v)), .int (M_lastPlace (M_lf v)), .ref (q 15), .ref (q 16), .ref (q 17), .ref (q 18), .int (M_hasImage (M_im v)), .int (M_spanNow (M_rn v)), .ref (q 19), .int x138, .int (M_alonePlace (M_al v)), .int (M_aloneSteps (M_al v)), .int (M_aloneOut (M_al v)), .ref (q 20), .ref (q 21), .ref (q 22), .ref (q 23), .int (M_shotAlarm (M_ex v)), .int (M_drawn (M_ex v))]), ((q 1), aI K 700 (M_tape (M_tp v))), ((q 2), aI K 20 (M_number (M_cd v))), ((q 3), aZ K 5 (M_isTold (M_rd v))), ((q 4), aI K 80 (M_codeSort (M_cd v))), ((q 5), aI K 80 (M_codeA (M_cd v))), ((q 6), aI K 80 (M_codeB (M_cd v))), ((q 7), aI K 80 (M_codeC (M_cd v))), ((q 8), aI K 80 (M_codeName (M_cd v))), ((q 9), aI K 80 (M_codePlace (M_cd v))), ((q 10), aI K 80 (M_codeTo (M_cd v))), ((q 11), aI K 280 (M_labelName (M_cd v))), ((q 12), aI K 280 (M_labelAt (M_cd v))), ((q 13), aI K 64 (M_data (M_cd v))), ((q 14), aZ K 32 (M_hasData (M_rd v))), ((q 15), aI K 314 (M_s (M_rn v))), ((q 16), aI K 314 (M_aside (M_ex v))), ((q 17), aI K 314 (M_further (M_ex v))), ((q 18), aI K 314 (M_image (M_im v))), ((q 19), aI K 3 (M_sizeNow (M_rn v))), ((q 20), aI K 8 (M_aloneRegister (M_al v))), ((q 21), aI K 4 (M_aloneReal (M_al v))), ((q 22), aI K 32 (M_aloneMemory (M_al v))), ((q 23), aI K 999 (M_aloneOutput (M_al v)))]) cx cf_X10 0 33 rfl (by decide) (Nat.le_of_ble_eq_true rfl) rfl pfd_I wd_1349 dX10_stepped_620 rfl ?_
                              refine r_goto (pc := 623) (tgt := 686) cx dX10_stepped_623 (by decide) ?_
                              refine r_loc (loc' := [(0, .ref (q 0)), (1, .int a1), (7, .int (0 : Int32))]) [6, 7, 0] rfl ?_
                              exact hJ14 _ _ hf
                            · have hf := ifn h136 hf
                              refine r_tout (pc := 65) (tgt := 626) cx dX10_stepped_65 (by
                                have nh25 := toInt_ne h25
                                have mh25 : (7 : Int32).toInt = 7 := by decide
                                rw [mh25] at nh25
                                have nh31 := toInt_ne h31
                                have mh31 : (8 : Int32).toInt = 8 := by decide
                                rw [mh31] at nh31
                                have nh38 := toInt_ne h38
                                have mh38 : (9 : Int32).toInt = 9 := by decide
                                rw [mh38] at nh38
                                have nh45 := toInt_ne h45
                                have mh45 : (10 : Int32).toInt = 10 := by decide
                                rw [mh45] at nh45
                                have nh52 := toInt_ne h52
                                have mh52 : (11 : Int32).toInt = 11 := by decide
                                rw [mh52] at nh52
                                have nh59 := toInt_ne h59
                                have mh59 : (12 : Int32).toInt = 12 := by decide
                                rw [mh59] at nh59
                                have nh67 := toInt_ne h67
                                have mh67 : (13 : Int32).toInt = 13 := by decide
                                rw [mh67] at nh67
                                have nh83 := toInt_ne h83
                                have mh83 : (14 : Int32).toInt = 14 := by decide
                                rw [mh83] at nh83
                                have nh95 := toInt_ne h95
                                have mh95 : (15 : Int32).toInt = 15 := by decide
                                rw [mh95] at nh95
                                have nh101 := toInt_ne h101
                                have mh101 : (16 : Int32).toInt = 16 := by decide
                                rw [mh101] at nh101
                                have nh109 := toInt_ne h109
                                have mh109 : (17 : Int32).toInt = 17 := by decide
                                rw [mh109] at nh109
                                have nh116 := toInt_ne h116
                                have mh116 : (18 : Int32).toInt = 18 := by decide
                                rw [mh116] at nh116
                                have nh126 := toInt_ne h126
                                have mh126 : (19 : Int32).toInt = 19 := by decide
                                rw [mh126] at nh126
                                have nh136 := toInt_ne h136
                                have mh136 : (20 : Int32).toInt = 20 := by decide
                                rw [mh136] at nh136
                                omega) (by decide) ?_
                              refine r_aload_n (pc := 626) cx dX10_stepped_626 6 rfl ?_
                              refine r_iload_n (pc := 627) cx dX10_stepped_627 7 rfl ?_
                              refine r_iload_n (pc := 628) cx dX10_stepped_628 5 rfl ?_
                              refine r_iload_n (pc := 629) cx dX10_stepped_629 4 rfl ?_
                              refine r_aload_n (pc := 630) cx dX10_stepped_630 6 rfl ?_
                              refine r_get (pc := 631) cx cf_X10 0 26 rfl (by decide) rfl wd_1342 dX10_stepped_631 ?_
                              refine r_iload (pc := 634) cx dX10_stepped_634 3 rfl ?_
                              refine r_aload_n (pc := 636) cx dX10_stepped_636 6 rfl ?_
                              refine r_get (pc := 637) cx cf_X10 0 6 rfl (by decide) rfl wd_1322 dX10_stepped_637 ?_
                              refine r_iload_n (pc := 640) cx dX10_stepped_640 5 rfl ?_
                              obtain ⟨h139, hf⟩ := chk_of hf
                              refine r_iald (pc := 641) cx 5 rfl h139 dX10_stepped_641 ?_
                              refine r_iadd (pc := 642) cx dX10_stepped_642 ?_
                              obtain ⟨h140, hf⟩ := chk_of hf
                              refine r_iald (pc := 643) cx 15 rfl h140 dX10_stepped_643 ?_
                              refine r_iload (pc := 644) cx dX10_stepped_644 1 rfl ?_
                              refine r_aload_n (pc := 646) cx dX10_stepped_646 6 rfl ?_
                              refine r_get (pc := 647) cx cf_X10 0 26 rfl (by decide) rfl wd_1342 dX10_stepped_647 ?_
                              refine r_iload (pc := 650) cx dX10_stepped_650 2 rfl ?_
                              refine r_aload_n (pc := 652) cx dX10_stepped_652 6 rfl ?_
                              refine r_get (pc := 653) cx cf_X10 0 6 rfl (by decide) rfl wd_1322 dX10_stepped_653 ?_
                              refine r_iload_n (pc := 656) cx dX10_stepped_656 5 rfl ?_
                              obtain ⟨h141, hf⟩ := chk_of hf
                              refine r_iald (pc := 657) cx 5 rfl h141 dX10_stepped_657 ?_
                              refine r_iconst (pc := 658) cx dX10_stepped_658 ic_4 ?_
                              refine r_irem (pc := 659) cx dX10_stepped_659 (by decide) ?_
                              refine r_iadd (pc := 660) cx dX10_stepped_660 ?_
                              obtain ⟨x142, ex142, hf⟩ := nm_of hf
                              refine r_nm ex142 ?_
                              obtain ⟨h143, hf⟩ := chk_of hf
                              refine r_iald (pc := 661) cx 15 rfl h143 dX10_stepped_661 ?_
                              refine r_aload_n (pc := 662) cx dX10_stepped_662 6 rfl ?_
                              refine r_get (pc := 663) cx cf_X10 0 26 rfl (by decide) rfl wd_1342 dX10_stepped_663 ?_
                              refine r_iload (pc := 666) cx dX10_stepped_666 2 rfl ?_
                              refine r_aload_n (pc := 668) cx dX10_stepped_668 6 rfl ?_
                              refine r_get (pc := 669) cx cf_X10 0 7 rfl (by decide) rfl wd_1323 dX10_stepped_669 ?_
                              refine r_iload_n (pc := 672) cx dX10_stepped_672 5 rfl ?_
                              obtain ⟨h144, hf⟩ := chk_of hf
                              refine r_iald (pc := 673) cx 6 rfl h144 dX10_stepped_673 ?_
                              refine r_iconst (pc := 674) cx dX10_stepped_674 ic_4 ?_
                              refine r_irem (pc := 675) cx dX10_stepped_675 (by decide) ?_
                              refine r_iadd (pc := 676) cx dX10_stepped_676 ?_
                              obtain ⟨x145, ex145, hf⟩ := nm_of hf
                              refine r_nm ex145 ?_
                              obtain ⟨h146, hf⟩ := chk_of hf
                              refine r_iald (pc := 677) cx 15 rfl h146 dX10_stepped_677 ?_
                              obtain ⟨r147, hc148, hf⟩ := bd_of hf
                              refine r_Si (pc := 678) (ws' := [((q 0), ob 9 [.int (M_thrown v), .ref (q 1), .int (M_taped (M_tp v)), .ref (q 2), .ref (q 3), .ref (q 4), .ref (q 5), .ref (q 6), .ref (q 7), .ref (q 8), .ref (q 9), .ref (q 10), .ref (q 11), .ref (q 12), .ref (q 13), .ref (q 14), .int (M_lines (M_rd v)), .int (M_size (M_rd v)), .int (M_at (M_rd v)), .int (M_place (M_rd v)), .int (M_sort (M_rd v)), .int (M_value (M_rd v)), .int (M_fault (M_rd v)), .int (M_faultPlace (M_rd v)), .int (M_lastFault (M_lf v)), .int (M_lastPlace (M_lf v)), .ref (q 15), .ref (q 16), .ref (q 17), .ref (q 18), .int (M_hasImage (M_im v)), .int (M_spanNow (M_rn v)), .ref (q 19), .int x11, .int (M_alonePlace (M_al v)), .int (M_aloneSteps (M_al v)), .int (M_aloneOut (M_al v)), .ref (q 20), .ref (q 21), .ref (q 22), .ref (q 23), .int (M_shotAlarm (M_ex v)), .int (M_drawn (M_ex v))]), ((q 1), aI K 700 (M_tape (M_tp v))), ((q 2), aI K 20 (M_number (M_cd v))), ((q 3), aZ K 5 (M_isTold (M_rd v))), ((q 4), aI K 80 (M_codeSort (M_cd v))), ((q 5), aI K 80 (M_codeA (M_cd v))), ((q 6), aI K 80 (M_codeB (M_cd v))), ((q 7), aI K 80 (M_codeC (M_cd v))), ((q 8), aI K 80 (M_codeName (M_cd v))), ((q 9), aI K 80 (M_codePlace (M_cd v))), ((q 10), aI K 80 (M_codeTo (M_cd v))), ((q 11), aI K 280 (M_labelName (M_cd v))), ((q 12), aI K 280 (M_labelAt (M_cd v))), ((q 13), aI K 64 (M_data (M_cd v))), ((q 14), aZ K 32 (M_hasData (M_rd v))), ((q 15), aI K 314 (M_s (M_rn v))), ((q 16), aI K 314 (M_aside (M_ex v))), ((q 17), aI K 314 (M_further (M_ex v))), ((q 18), aI K 314 (M_image (M_im v))), ((q 19), aI K 3 (M_sizeNow (M_rn v))), ((q 20), aI K 8 (M_aloneRegister (M_al v))), ((q 21), aI K 4 (M_aloneReal (M_al v))), ((q 22), aI K 32 (M_aloneMemory (M_al v))), ((q 23), aI K 999 (M_aloneOutput (M_al v)))]) (nn := 0) cx [.int x4, .int ((M_s (M_rn v)) ((x5 + ((M_codeA (M_cd v)) x2.toNatClampNeg))).toNatClampNeg), .int x10, .int ((M_s (M_rn v)) x142.toNatClampNeg), .int ((M_s (M_rn v)) x145.toNatClampNeg)] [.int x2, .int a1, .ref (q 0)] (m_M_goesBy l D K x4 ((M_s (M_rn v)) ((x5 + ((M_codeA (M_cd v)) x2.toNatClampNeg))).toNatClampNeg) x10 ((M_s (M_rn v)) x142.toNatClampNeg) ((M_s (M_rn v)) x145.toNatClampNeg) hc148) ys_X10_goesBy wd_1660 ⟨rfl, rfl⟩ (by decide) (fr_k (fr_k (fr_k (fr_k (fr_k (fr_k (fr_k (fr_k (fr_k (fr_k (fr_k (fr_k (fr_k (fr_k (fr_k (fr_k (fr_k (fr_k (fr_k (fr_k (fr_k (fr_k (fr_k (fr_k (fr_n))))))))))))))))))))))))) rfl (by decide) rfl (Nat.le_of_ble_eq_true rfl) dX10_stepped_678 ?_
                              obtain ⟨r149, v150, hc151, hf⟩ := bd2_of hf
                              refine r_Vi (pc := 681) (ws' := [((q 0), ob 9 [.int (M_thrown v150), .ref (q 1), .int (M_taped (M_tp v150)), .ref (q 2), .ref (q 3), .ref (q 4), .ref (q 5), .ref (q 6), .ref (q 7), .ref (q 8), .ref (q 9), .ref (q 10), .ref (q 11), .ref (q 12), .ref (q 13), .ref (q 14), .int (M_lines (M_rd v150)), .int (M_size (M_rd v150)), .int (M_at (M_rd v150)), .int (M_place (M_rd v150)), .int (M_sort (M_rd v150)), .int (M_value (M_rd v150)), .int (M_fault (M_rd v150)), .int (M_faultPlace (M_rd v150)), .int (M_lastFault (M_lf v150)), .int (M_lastPlace (M_lf v150)), .ref (q 15), .ref (q 16), .ref (q 17), .ref (q 18), .int (M_hasImage (M_im v150)), .int (M_spanNow (M_rn v150)), .ref (q 19), .int (M_placeThen (M_rn v150)), .int (M_alonePlace (M_al v150)), .int (M_aloneSteps (M_al v150)), .int (M_aloneOut (M_al v150)), .ref (q 20), .ref (q 21), .ref (q 22), .ref (q 23), .int (M_shotAlarm (M_ex v150)), .int (M_drawn (M_ex v150))]), ((q 1), aI K 700 (M_tape (M_tp v150))), ((q 2), aI K 20 (M_number (M_cd v150))), ((q 3), aZ K 5 (M_isTold (M_rd v150))), ((q 4), aI K 80 (M_codeSort (M_cd v150))), ((q 5), aI K 80 (M_codeA (M_cd v150))), ((q 6), aI K 80 (M_codeB (M_cd v150))), ((q 7), aI K 80 (M_codeC (M_cd v150))), ((q 8), aI K 80 (M_codeName (M_cd v150))), ((q 9), aI K 80 (M_codePlace (M_cd v150))), ((q 10), aI K 80 (M_codeTo (M_cd v150))), ((q 11), aI K 280 (M_labelName (M_cd v150))), ((q 12), aI K 280 (M_labelAt (M_cd v150))), ((q 13), aI K 64 (M_data (M_cd v150))), ((q 14), aZ K 32 (M_hasData (M_rd v150))), ((q 15), aI K 314 (M_s (M_rn v150))), ((q 16), aI K 314 (M_aside (M_ex v150))), ((q 17), aI K 314 (M_further (M_ex v150))), ((q 18), aI K 314 (M_image (M_im v150))), ((q 19), aI K 3 (M_sizeNow (M_rn v150))), ((q 20), aI K 8 (M_aloneRegister (M_al v150))), ((q 21), aI K 4 (M_aloneReal (M_al v150))), ((q 22), aI K 32 (M_aloneMemory (M_al v150))), ((q 23), aI K 999 (M_aloneOutput (M_al v150)))]) (nn := 24) cx [.int a1, .int x2, .int r147] [] (m_M_branches l D K q ((M_tp v), (M_rd v), (M_lf v), (M_cd v), ((M_s (M_rn v)), (M_spanNow (M_rn v)), (M_sizeNow (M_rn v)), x11), (M_ex v), (M_im v), (M_al v), (M_thrown v)) a1 x2 r147 hc151) yv_X10_branches wd_1663 ⟨rfl, rfl⟩ (by decide) (fr_s (j := 0) rfl rfl rfl (fr_s (j := 1) rfl rfl rfl (fr_s (j := 2) rfl rfl rfl (fr_s (j := 3) rfl rfl rfl (fr_s (j := 4) rfl rfl rfl (fr_s (j := 5) rfl rfl rfl (fr_s (j := 6) rfl rfl rfl (fr_s (j := 7) rfl rfl rfl (fr_s (j := 8) rfl rfl rfl (fr_s (j := 9) rfl rfl rfl (fr_s (j := 10) rfl rfl rfl (fr_s (j := 11) rfl rfl rfl (fr_s (j := 12) rfl rfl rfl (fr_s (j := 13) rfl rfl rfl (fr_s (j := 14) rfl rfl rfl (fr_s (j := 15) rfl rfl rfl (fr_s (j := 16) rfl rfl rfl (fr_s (j := 17) rfl rfl rfl (fr_s (j := 18) rfl rfl rfl (fr_s (j := 19) rfl rfl rfl (fr_s (j := 20) rfl rfl rfl (fr_s (j := 21) rfl rfl rfl (fr_s (j := 22) rfl rfl rfl (fr_s (j := 23) rfl rfl rfl (fr_n))))))))))))))))))))))))) rfl (by decide) 0 rfl rfl rfl (Nat.le_of_ble_eq_true rfl) dX10_stepped_681 ?_
                              refine r_istore (pc := 684) (loc' := [(7, .int r149), (6, .int x10), (5, .int x6), (4, .int x5), (3, .int x4), (2, .int x2), (0, .ref (q 0)), (1, .int a1)]) cx dX10_stepped_684 (by decide) rfl ?_
                              refine r_loc (loc' := [(0, .ref (q 0)), (1, .int a1), (7, .int r149)]) [6, 7, 0] rfl ?_
                              exact hJ14 _ _ hf
theorem yv_X10_stepped : YV yX10_stepped cX10_stepped 8 (some .int) 1 := ⟨⟨by decide +kernel, by decide +kernel, by decide +kernel⟩, wd_1606, wd_102, wd_1605, wd_60⟩
