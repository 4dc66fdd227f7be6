abbrev rm_M_text : Room := { frames := 12, cells := 0, slots := 0, locals := 323 }
set_option maxRecDepth 100000 in
set_option maxHeartbeats 4000000 in
theorem m_M_text (l : Launch) (D : va_G) (K : Nat → ClassId) (q : Nat → Nat) (v : T_M) (a1 : Int32) {r_ : Int32} {o_v : T_M} (hf : f_M_text v a1 = some (r_, o_v)) : MI l yX10_text cX10_text 2 (some .int) rm_M_text D K [.ref (q 0), .int a1] (cl_M K q v) r_ (cl_M K q o_v) := by
  refine MI_of (loc0 := [(0, .ref (q 0)), (1, .int a1)]) (by decide +kernel) rfl (Nat.le_of_ble_eq_true rfl) ?_
  intro p e s m args below meth c A cx
  unfold f_M_text at hf
  refine r_ws (ws' := [((q 0), ob 9 [.int (M_thrown v), .ref (q 1), .int (M_taped (M_tp v)), .ref (q 2), .ref (q 3), .ref (q 4), .ref (q 5), .ref (q 6), .ref (q 7), .ref (q 8), .ref (q 9), .ref (q 10), .ref (q 11), .ref (q 12), .ref (q 13), .ref (q 14), .int (M_lines (M_rd v)), .int (M_size (M_rd v)), .int (M_at (M_rd v)), .int (M_place (M_rd v)), .int (M_sort (M_rd v)), .int (M_value (M_rd v)), .int (M_fault (M_rd v)), .int (M_faultPlace (M_rd v)), .int (M_lastFault (M_lf v)), .int (M_lastPlace (M_lf v)), .ref (q 15), .ref (q 16), .ref (q 17), .ref (q 18), .int (M_hasImage (M_im v)), .int (M_spanNow (M_rn v)), .ref (q 19), .int (M_placeThen (M_rn v)), .int (M_alonePlace (M_al v)), .int (M_aloneSteps (M_al v)), .int (M_aloneOut (M_al v)), .ref (q 20), .ref (q 21), .ref (q 22), .ref (q 23), .int (M_shotAlarm (M_ex v)), .int (M_drawn (M_ex v))]), ((q 1), aI K 700 (M_tape (M_tp v))), ((q 2), aI K 20 (M_number (M_cd v))), ((q 3), aZ K 5 (M_isTold (M_rd v))), ((q 4), aI K 80 (M_codeSort (M_cd v))), ((q 5), aI K 80 (M_codeA (M_cd v))), ((q 6), aI K 80 (M_codeB (M_cd v))), ((q 7), aI K 80 (M_codeC (M_cd v))), ((q 8), aI K 80 (M_codeName (M_cd v))), ((q 9), aI K 80 (M_codePlace (M_cd v))), ((q 10), aI K 80 (M_codeTo (M_cd v))), ((q 11), aI K 280 (M_labelName (M_cd v))), ((q 12), aI K 280 (M_labelAt (M_cd v))), ((q 13), aI K 64 (M_data (M_cd v))), ((q 14), aZ K 32 (M_hasData (M_rd v))), ((q 15), aI K 314 (M_s (M_rn v))), ((q 16), aI K 314 (M_aside (M_ex v))), ((q 17), aI K 314 (M_further (M_ex v))), ((q 18), aI K 314 (M_image (M_im v))), ((q 19), aI K 3 (M_sizeNow (M_rn v))), ((q 20), aI K 8 (M_aloneRegister (M_al v))), ((q 21), aI K 4 (M_aloneReal (M_al v))), ((q 22), aI K 32 (M_aloneMemory (M_al v))), ((q 23), aI K 999 (M_aloneOutput (M_al v)))]) rfl ?_
  refine r_aload_n (pc := 0) cx dX10_text_0 0 rfl ?_
  refine r_iconst (pc := 1) cx dX10_text_1 ic_0 ?_
  refine r_putI (pc := 2) (ws' := [((q 0), ob 9 [.int (0 : Int32), .ref (q 1), .int (M_taped (M_tp v)), .ref (q 2), .ref (q 3), .ref (q 4), .ref (q 5), .ref (q 6), .ref (q 7), .ref (q 8), .ref (q 9), .ref (q 10), .ref (q 11), .ref (q 12), .ref (q 13), .ref (q 14), .int (M_lines (M_rd v)), .int (M_size (M_rd v)), .int (M_at (M_rd v)), .int (M_place (M_rd v)), .int (M_sort (M_rd v)), .int (M_value (M_rd v)), .int (M_fault (M_rd v)), .int (M_faultPlace (M_rd v)), .int (M_lastFault (M_lf v)), .int (M_lastPlace (M_lf v)), .ref (q 15), .ref (q 16), .ref (q 17), .ref (q 18), .int (M_hasImage (M_im v)), .int (M_spanNow (M_rn v)), .ref (q 19), .int (M_placeThen (M_rn v)), .int (M_alonePlace (M_al v)), .int (M_aloneSteps (M_al v)), .int (M_aloneOut (M_al v)), .ref (q 20), .ref (q 21), .ref (q 22), .ref (q 23), .int (M_shotAlarm (M_ex v)), .int (M_drawn (M_ex v))]), ((q 1), aI K 700 (M_tape (M_tp v))), ((q 2), aI K 20 (M_number (M_cd v))), ((q 3), aZ K 5 (M_isTold (M_rd v))), ((q 4), aI K 80 (M_codeSort (M_cd v))), ((q 5), aI K 80 (M_codeA (M_cd v))), ((q 6), aI K 80 (M_codeB (M_cd v))), ((q 7), aI K 80 (M_codeC (M_cd v))), ((q 8), aI K 80 (M_codeName (M_cd v))), ((q 9), aI K 80 (M_codePlace (M_cd v))), ((q 10), aI K 80 (M_codeTo (M_cd v))), ((q 11), aI K 280 (M_labelName (M_cd v))), ((q 12), aI K 280 (M_labelAt (M_cd v))), ((q 13), aI K 64 (M_data (M_cd v))), ((q 14), aZ K 32 (M_hasData (M_rd v))), ((q 15), aI K 314 (M_s (M_rn v))), ((q 16), aI K 314 (M_aside (M_ex v))), ((q 17), aI K 314 (M_further (M_ex v))), ((q 18), aI K 314 (M_image (M_im v))), ((q 19), aI K 3 (M_sizeNow (M_rn v))), ((q 20), aI K 8 (M_aloneRegister (M_al v))), ((q 21), aI K 4 (M_aloneReal (M_al v))), ((q 22), aI K 32 (M_aloneMemory (M_al v))), ((q 23), aI K 999 (M_aloneOutput (M_al v)))]) cx cf_X10 0 0 rfl (by decide) (Nat.le_of_ble_eq_true rfl) rfl pfd_I wd_1316 dX10_text_2 rfl ?_
  refine r_iload_n (pc := 5) cx dX10_text_5 1 rfl ?_
  refine r_if_lt (pc := 6) (tgt := 17) cx dX10_text_6 (by decide) (fun h1 => ?_) (fun h1 => ?_)
  · replace hf := ifp h1 hf
    refine r_bipush (pc := 17) cx dX10_text_17 bp_m2 ?_
    have hi := inj2 hf
    exact r_iret (pc := 19) cx hi.1 (by rw [← hi.2]; (try simp only [cl_M, M_tape_mk, M_taped_mk, M_tp_mk, M_lines_mk, M_size_mk, M_at_mk, M_place_mk, M_sort_mk, M_value_mk, M_fault_mk, M_faultPlace_mk, M_isTold_mk, M_hasData_mk, M_rd_mk, M_lastFault_mk, M_lastPlace_mk, M_lf_mk, M_number_mk, M_codeSort_mk, M_codeA_mk, M_codeB_mk, M_codeC_mk, M_codeName_mk, M_codePlace_mk, M_codeTo_mk, M_labelName_mk, M_labelAt_mk, M_data_mk, M_cd_mk, M_s_mk, M_spanNow_mk, M_sizeNow_mk, M_placeThen_mk, M_rn_mk, M_aside_mk, M_further_mk, M_shotAlarm_mk, M_drawn_mk, M_ex_mk, M_image_mk, M_hasImage_mk, M_im_mk, M_alonePlace_mk, M_aloneSteps_mk, M_aloneOut_mk, M_aloneRegister_mk, M_aloneReal_mk, M_aloneMemory_mk, M_aloneOutput_mk, M_al_mk, M_thrown_mk, List.cons_append, List.nil_append, List.append_nil]) <;> rfl) dX10_text_19
  · replace hf := ifn h1 hf
    refine r_iload_n (pc := 9) cx dX10_text_9 1 rfl ?_
    refine r_aload_n (pc := 10) cx dX10_text_10 0 rfl ?_
    refine r_get (pc := 11) cx cf_X10 0 2 rfl (by decide) rfl wd_1318 dX10_text_11 ?_
    refine r_icmp_le (pc := 14) (tgt := 20) cx dX10_text_14 (by decide) (fun h2 => ?_) (fun h2 => ?_)
    · replace hf := ifp h2 hf
      refine r_aload_n (pc := 20) cx dX10_text_20 0 rfl ?_
      refine r_iload_n (pc := 21) cx dX10_text_21 1 rfl ?_
      replace hf := bd_of hf
      obtain ⟨v3, hc4, hf⟩ := hf
      refine r_Vv (pc := 22) (ws' := [((q 0), ob 9 [.int (M_thrown v3), .ref (q 1), .int (M_taped (M_tp v3)), .ref (q 2), .ref (q 3), .ref (q 4), .ref (q 5), .ref (q 6), .ref (q 7), .ref (q 8), .ref (q 9), .ref (q 10), .ref (q 11), .ref (q 12), .ref (q 13), .ref (q 14), .int (M_lines (M_rd v3)), .int (M_size (M_rd v3)), .int (M_at (M_rd v3)), .int (M_place (M_rd v3)), .int (M_sort (M_rd v3)), .int (M_value (M_rd v3)), .int (M_fault (M_rd v3)), .int (M_faultPlace (M_rd v3)), .int (M_lastFault (M_lf v3)), .int (M_lastPlace (M_lf v3)), .ref (q 15), .ref (q 16), .ref (q 17), .ref (q 18), .int (M_hasImage (M_im v3)), .int (M_spanNow (M_rn v3)), .ref (q 19), .int (M_placeThen (M_rn v3)), .int (M_alonePlace (M_al v3)), .int (M_aloneSteps (M_al v3)), .int (M_aloneOut (M_al v3)), .ref (q 20), .ref (q 21), .ref (q 22), .ref (q 23), .int (M_shotAlarm (M_ex v3)), .int (M_drawn (M_ex v3))]), ((q 1), aI K 700 (M_tape (M_tp v3))), ((q 2), aI K 20 (M_number (M_cd v3))), ((q 3), aZ K 5 (M_isTold (M_rd v3))), ((q 4), aI K 80 (M_codeSort (M_cd v3))), ((q 5), aI K 80 (M_codeA (M_cd v3))), ((q 6), aI K 80 (M_codeB (M_cd v3))), ((q 7), aI K 80 (M_codeC (M_cd v3))), ((q 8), aI K 80 (M_codeName (M_cd v3))), ((q 9), aI K 80 (M_codePlace (M_cd v3))), ((q 10), aI K 80 (M_codeTo (M_cd v3))), ((q 11), aI K 280 (M_labelName (M_cd v3))), ((q 12), aI K 280 (M_labelAt (M_cd v3))), ((q 13), aI K 64 (M_data (M_cd v3))), ((q 14), aZ K 32 (M_hasData (M_rd v3))), ((q 15), aI K 314 (M_s (M_rn v3))), ((q 16), aI K 314 (M_aside (M_ex v3))), ((q 17), aI K 314 (M_further (M_ex v3))), ((q 18), aI K 314 (M_image (M_im v3))), ((q 19), aI K 3 (M_sizeNow (M_rn v3))), ((q 20), aI K 8 (M_aloneRegister (M_al v3))), ((q 21), aI K 4 (M_aloneReal (M_al v3))), ((q 22), aI K 32 (M_aloneMemory (M_al v3))), ((q 23), aI K 999 (M_aloneOutput (M_al v3)))]) (wc := [((q 0), ob 9 [.int (0 : Int32), .ref (q 1), .int (M_taped (M_tp v)), .ref (q 2), .ref (q 3), .ref (q 4), .ref (q 5), .ref (q 6), .ref (q 7), .ref (q 8), .ref (q 9), .ref (q 10), .ref (q 11), .ref (q 12), .ref (q 13), .ref (q 14), .int (M_lines (M_rd v)), .int (M_size (M_rd v)), .int (M_at (M_rd v)), .int (M_place (M_rd v)), .int (M_sort (M_rd v)), .int (M_value (M_rd v)), .int (M_fault (M_rd v)), .int (M_faultPlace (M_rd v)), .int (M_lastFault (M_lf v)), .int (M_lastPlace (M_lf v)), .ref (q 15), .ref (q 16), .ref (q 17), .ref (q 18), .int (M_hasImage (M_im v)), .int (M_spanNow (M_rn v)), .ref (q 19), .int (M_placeThen (M_rn v)), .int (M_alonePlace (M_al v)), .int (M_aloneSteps (M_al v)), .int (M_aloneOut (M_al v)), .ref (q 20), .ref (q 21), .ref (q 22), .ref (q 23), .int (M_shotAlarm (M_ex v)), .int (M_drawn (M_ex v))]), ((q 1), aI K 700 (M_tape (M_tp v))), ((q 2), aI K 20 (M_number (M_cd v))), ((q 3), aZ K 5 (M_isTold (M_rd v))), ((q 4), aI K 80 (M_codeSort (M_cd v))), ((q 5), aI K 80 (M_codeA (M_cd v))), ((q 6), aI K 80 (M_codeB (M_cd v))), ((q 7), aI K 80 (M_codeC (M_cd v))), ((q 8), aI K 80 (M_codeName (M_cd v))), ((q 9), aI K 80 (M_codePlace (M_cd v))), ((q 10), aI K 80 (M_codeTo (M_cd v))), ((q 11), aI K 280 (M_labelName (M_cd v))), ((q 12), aI K 280 (M_labelAt (M_cd v))), ((q 13), aI K 64 (M_data (M_cd v))), ((q 14), aZ K 32 (M_hasData (M_rd v))), ((q 15), aI K 314 (M_s (M_rn v))), ((q 16), aI K 314 (M_aside (M_ex v))), ((q 17), aI K 314 (M_further (M_ex v))), ((q 18), aI K 314 (M_image (M_im v))), ((q 19), aI K 3 (M_sizeNow (M_rn v))), ((q 20), aI K 8 (M_aloneRegister (M_al v))), ((q 21), aI K 4 (M_aloneReal (M_al v))), ((q 22), aI K 32 (M_aloneMemory (M_al v))), ((q 23), aI K 999 (M_aloneOutput (M_al v)))]) (nn := 24) cx [.int a1] [] (m_M_readText l D K q ((M_tp v), (M_rd v), (M_lf v), (M_cd v), (M_rn v), (M_ex v), (M_im v), (M_al v), (0 : Int32)) a1 hc4) (by (try simp only [cl_M, M_tape_mk, M_taped_mk, M_tp_mk, M_lines_mk, M_size_mk, M_at_mk, M_place_mk, M_sort_mk, M_value_mk, M_fault_mk, M_faultPlace_mk, M_isTold_mk, M_hasData_mk, M_rd_mk, M_lastFault_mk, M_lastPlace_mk, M_lf_mk, M_number_mk, M_codeSort_mk, M_codeA_mk, M_codeB_mk, M_codeC_mk, M_codeName_mk, M_codePlace_mk, M_codeTo_mk, M_labelName_mk, M_labelAt_mk, M_data_mk, M_cd_mk, M_s_mk, M_spanNow_mk, M_sizeNow_mk, M_placeThen_mk, M_rn_mk, M_aside_mk, M_further_mk, M_shotAlarm_mk, M_drawn_mk, M_ex_mk, M_image_mk, M_hasImage_mk, M_im_mk, M_alonePlace_mk, M_aloneSteps_mk, M_aloneOut_mk, M_aloneRegister_mk, M_aloneReal_mk, M_aloneMemory_mk, M_aloneOutput_mk, M_al_mk, M_thrown_mk, List.cons_append, List.nil_append, List.append_nil]) <;> rfl) yv_X10_readText wd_1459 ⟨rfl, rfl⟩ (by decide) (fr_s (j := 0) rfl rfl rfl (fr_s (j := 1) rfl rfl rfl (fr_s (j := 2) rfl rfl rfl (fr_s (j := 3) rfl rfl rfl (fr_s (j := 4) rfl rfl rfl (fr_s (j := 5) rfl rfl rfl (fr_s (j := 6) rfl rfl rfl (fr_s (j := 7) rfl rfl rfl (fr_s (j := 8) rfl rfl rfl (fr_s (j := 9) rfl rfl rfl (fr_s (j := 10) rfl rfl rfl (fr_s (j := 11) rfl rfl rfl (fr_s (j := 12) rfl rfl rfl (fr_s (j := 13) rfl rfl rfl (fr_s (j := 14) rfl rfl rfl (fr_s (j := 15) rfl rfl rfl (fr_s (j := 16) rfl rfl rfl (fr_s (j := 17) rfl rfl rfl (fr_s (j := 18) rfl rfl rfl (fr_s (j := 19) rfl rfl rfl (fr_s (j := 20) rfl rfl rfl (fr_s (j := 21) rfl rfl rfl (fr_s (j := 22) rfl rfl rfl (fr_s (j := 23) rfl rfl rfl (fr_n))))))))))))))))))))))))) rfl (by decide) 0 rfl rfl rfl (Nat.le_of_ble_eq_true rfl) dX10_text_22 ?_
      refine r_aload_n (pc := 25) cx dX10_text_25 0 rfl ?_
      refine r_iconst (pc := 26) cx dX10_text_26 ic_0 ?_
      refine r_putI (pc := 27) (ws' := [((q 0), ob 9 [.int (M_thrown v3), .ref (q 1), .int (0 : Int32), .ref (q 2), .ref (q 3), .ref (q 4), .ref (q 5), .ref (q 6), .ref (q 7), .ref (q 8), .ref (q 9), .ref (q 10), .ref (q 11), .ref (q 12), .ref (q 13), .ref (q 14), .int (M_lines (M_rd v3)), .int (M_size (M_rd v3)), .int (M_at (M_rd v3)), .int (M_place (M_rd v3)), .int (M_sort (M_rd v3)), .int (M_value (M_rd v3)), .int (M_fault (M_rd v3)), .int (M_faultPlace (M_rd v3)), .int (M_lastFault (M_lf v3)), .int (M_lastPlace (M_lf v3)), .ref (q 15), .ref (q 16), .ref (q 17), .ref (q 18), .int (M_hasImage (M_im v3)), .int (M_spanNow (M_rn v3)), .ref (q 19), .int (M_placeThen (M_rn v3)), .int (M_alonePlace (M_al v3)), .int (M_aloneSteps (M_al v3)), .int (M_aloneOut (M_al v3)), .ref (q 20), .ref (q 21), .ref (q 22), .ref (q 23), .int (M_shotAlarm (M_ex v3)), .int (M_drawn (M_ex v3))]), ((q 1), aI K 700 (M_tape (M_tp v3))), ((q 2), aI K 20 (M_number (M_cd v3))), ((q 3), aZ K 5 (M_isTold (M_rd v3))), ((q 4), aI K 80 (M_codeSort (M_cd v3))), ((q 5), aI K 80 (M_codeA (M_cd v3))), ((q 6), aI K 80 (M_codeB (M_cd v3))), ((q 7), aI K 80 (M_codeC (M_cd v3))), ((q 8), aI K 80 (M_codeName (M_cd v3))), ((q 9), aI K 80 (M_codePlace (M_cd v3))), ((q 10), aI K 80 (M_codeTo (M_cd v3))), ((q 11), aI K 280 (M_labelName (M_cd v3))), ((q 12), aI K 280 (M_labelAt (M_cd v3))), ((q 13), aI K 64 (M_data (M_cd v3))), ((q 14), aZ K 32 (M_hasData (M_rd v3))), ((q 15), aI K 314 (M_s (M_rn v3))), ((q 16), aI K 314 (M_aside (M_ex v3))), ((q 17), aI K 314 (M_further (M_ex v3))), ((q 18), aI K 314 (M_image (M_im v3))), ((q 19), aI K 3 (M_sizeNow (M_rn v3))), ((q 20), aI K 8 (M_aloneRegister (M_al v3))), ((q 21), aI K 4 (M_aloneReal (M_al v3))), ((q 22), aI K 32 (M_aloneMemory (M_al v3))), ((q 23), aI K 999 (M_aloneOutput (M_al v3)))]) cx cf_X10 0 2 rfl (by decide) (Nat.le_of_ble_eq_true rfl) rfl pfd_I wd_1318 dX10_text_27 rfl ?_
      refine r_aload_n (pc := 30) cx dX10_text_30 0 rfl ?_
      refine r_aload_n (pc := 31) cx dX10_text_31 0 rfl ?_
      refine r_get (pc := 32) cx cf_X10 0 22 rfl (by decide) rfl wd_1338 dX10_text_32 ?_
      replace hf := nm_of hf
      obtain ⟨x5, ex5, hf⟩ := hf
      refine r_nm ex5 ?_
      refine r_putI (pc := 35) (ws' := [((q 0), ob 9 [.int (M_thrown v3), .ref (q 1), .int (0 : Int32), .ref (q 2), .ref (q 3), .ref (q 4), .ref (q 5), .ref (q 6), .ref (q 7), .ref (q 8), .ref (q 9), .ref (q 10), .ref (q 11), .ref (q 12), .ref (q 13), .ref (q 14), .int (M_lines (M_rd v3)), .int (M_size (M_rd v3)), .int (M_at (M_rd v3)), .int (M_place (M_rd v3)), .int (M_sort (M_rd v3)), .int (M_value (M_rd v3)), .int (M_fault (M_rd v3)), .int (M_faultPlace (M_rd v3)), .int x5, .int (M_lastPlace (M_lf v3)), .ref (q 15), .ref (q 16), .ref (q 17), .ref (q 18), .int (M_hasImage (M_im v3)), .int (M_spanNow (M_rn v3)), .ref (q 19), .int (M_placeThen (M_rn v3)), .int (M_alonePlace (M_al v3)), .int (M_aloneSteps (M_al v3)), .int (M_aloneOut (M_al v3)), .ref (q 20), .ref (q 21), .ref (q 22), .ref (q 23), .int (M_shotAlarm (M_ex v3)), .int (M_drawn (M_ex v3))]), ((q 1), aI K 700 (M_tape (M_tp v3))), ((q 2), aI K 20 (M_number (M_cd v3))), ((q 3), aZ K 5 (M_isTold (M_rd v3))), ((q 4), aI K 80 (M_codeSort (M_cd v3))), ((q 5), aI K 80 (M_codeA (M_cd v3))), ((q 6), aI K 80 (M_codeB (M_cd v3))), ((q 7), aI K 80 (M_codeC (M_cd v3))), ((q 8), aI K 80 (M_codeName (M_cd v3))), ((q 9), aI K 80 (M_codePlace (M_cd v3))), ((q 10), aI K 80 (M_codeTo (M_cd v3))), ((q 11), aI K 280 (M_labelName (M_cd v3))), ((q 12), aI K 280 (M_labelAt (M_cd v3))), ((q 13), aI K 64 (M_data (M_cd v3))), ((q 14), aZ K 32 (M_hasData (M_rd v3))), ((q 15), aI K 314 (M_s (M_rn v3))), ((q 16), aI K 314 (M_aside (M_ex v3))), ((q 17), aI K 314 (M_further (M_ex v3))), ((q 18), aI K 314 (M_image (M_im v3))), ((q 19), aI K 3 (M_sizeNow (M_rn v3))), ((q 20), aI K 8 (M_aloneRegister (M_al v3))), ((q 21), aI K 4 (M_aloneReal (M_al v3))), ((q 22), aI K 32 (M_aloneMemory (M_al v3))), ((q 23), aI K 999 (M_aloneOutput (M_al v3)))]) cx cf_X10 0 24 rfl (by decide) (Nat.le_of_ble_eq_true rfl) rfl pfd_I wd_1340 dX10_text_35 rfl ?_
      refine r_aload_n (pc := 38) cx dX10_text_38 0 rfl ?_
      refine r_aload_n (pc := 39) cx dX10_text_39 0 rfl ?_
      refine r_get (pc := 40) cx cf_X10 0 22 rfl (by decide) rfl wd_1338 dX10_text_40 ?_
      replace hf := nm_of hf
      obtain ⟨J7, eJ7, hf⟩ := hf
      have hJ7 : ∀ (y6 : Int32), J7 y6 = some (r_, o_v) → WW p l e rm_M_text s m args below meth c D A 2 0 0 (MQ below (QI D K A r_ (cl_M K q o_v)) args s 0 0 A) ([((q 0), ob 9 [.int (M_thrown v3), .ref (q 1), .int (0 : Int32), .ref (q 2), .ref (q 3), .ref (q 4), .ref (q 5), .ref (q 6), .ref (q 7), .ref (q 8), .ref (q 9), .ref (q 10), .ref (q 11), .ref (q 12), .ref (q 13), .ref (q 14), .int (M_lines (M_rd v3)), .int (M_size (M_rd v3)), .int (M_at (M_rd v3)), .int (M_place (M_rd v3)), .int (M_sort (M_rd v3)), .int (M_value (M_rd v3)), .int (M_fault (M_rd v3)), .int (M_faultPlace (M_rd v3)), .int x5, .int (M_lastPlace (M_lf v3)), .ref (q 15), .ref (q 16), .ref (q 17), .ref (q 18), .int (M_hasImage (M_im v3)), .int (M_spanNow (M_rn v3)), .ref (q 19), .int (M_placeThen (M_rn v3)), .int (M_alonePlace (M_al v3)), .int (M_aloneSteps (M_al v3)), .int (M_aloneOut (M_al v3)), .ref (q 20), .ref (q 21), .ref (q 22), .ref (q 23), .int (M_shotAlarm (M_ex v3)), .int (M_drawn (M_ex v3))]), ((q 1), aI K 700 (M_tape (M_tp v3))), ((q 2), aI K 20 (M_number (M_cd v3))), ((q 3), aZ K 5 (M_isTold (M_rd v3))), ((q 4), aI K 80 (M_codeSort (M_cd v3))), ((q 5), aI K 80 (M_codeA (M_cd v3))), ((q 6), aI K 80 (M_codeB (M_cd v3))), ((q 7), aI K 80 (M_codeC (M_cd v3))), ((q 8), aI K 80 (M_codeName (M_cd v3))), ((q 9), aI K 80 (M_codePlace (M_cd v3))), ((q 10), aI K 80 (M_codeTo (M_cd v3))), ((q 11), aI K 280 (M_labelName (M_cd v3))), ((q 12), aI K 280 (M_labelAt (M_cd v3))), ((q 13), aI K 64 (M_data (M_cd v3))), ((q 14), aZ K 32 (M_hasData (M_rd v3))), ((q 15), aI K 314 (M_s (M_rn v3))), ((q 16), aI K 314 (M_aside (M_ex v3))), ((q 17), aI K 314 (M_further (M_ex v3))), ((q 18), aI K 314 (M_image (M_im v3))), ((q 19), aI K 3 (M_sizeNow (M_rn v3))), ((q 20), aI K 8 (M_aloneRegister (M_al v3))), ((q 21), aI K 4 (M_aloneReal (M_al v3))), ((q 22), aI K 32 (M_aloneMemory (M_al v3))), ((q 23), aI K 999 (M_aloneOutput (M_al v3)))]) ([(0, .ref (q 0))]) ([.int y6, .ref (q 0)]) 54 := by
        clear hf
        intro y6 hf
        rw [eJ7] at hf
        refine r_putI (pc := 54) (ws' := [((q 0), ob 9 [.int (M_thrown v3), .ref (q 1), .int (0 : Int32), .ref (q 2), .ref (q 3), .ref (q 4), .ref (q 5), .ref (q 6), .ref (q 7), .ref (q 8), .ref (q 9), .ref (q 10), .ref (q 11), .ref (q 12), .ref (q 13), .ref (q 14), .int (M_lines (M_rd v3)), .int (M_size (M_rd v3)), .int (M_at (M_rd v3)), .int (M_place (M_rd v3)), .int (M_sort (M_rd v3)), .int (M_value (M_rd v3)), .int (M_fault (M_rd v3)), .int (M_faultPlace (M_rd v3)), .int x5, .int y6, .ref (q 15), .ref (q 16), .ref (q 17), .ref (q 18), .int (M_hasImage (M_im v3)), .int (M_spanNow (M_rn v3)), .ref (q 19), .int (M_placeThen (M_rn v3)), .int (M_alonePlace (M_al v3)), .int (M_aloneSteps (M_al v3)), .int (M_aloneOut (M_al v3)), .ref (q 20), .ref (q 21), .ref (q 22), .ref (q 23), .int (M_shotAlarm (M_ex v3)), .int (M_drawn (M_ex v3))]), ((q 1), aI K 700 (M_tape (M_tp v3))), ((q 2), aI K 20 (M_number (M_cd v3))), ((q 3), aZ K 5 (M_isTold (M_rd v3))), ((q 4), aI K 80 (M_codeSort (M_cd v3))), ((q 5), aI K 80 (M_codeA (M_cd v3))), ((q 6), aI K 80 (M_codeB (M_cd v3))), ((q 7), aI K 80 (M_codeC (M_cd v3))), ((q 8), aI K 80 (M_codeName (M_cd v3))), ((q 9), aI K 80 (M_codePlace (M_cd v3))), ((q 10), aI K 80 (M_codeTo (M_cd v3))), ((q 11), aI K 280 (M_labelName (M_cd v3))), ((q 12), aI K 280 (M_labelAt (M_cd v3))), ((q 13), aI K 64 (M_data (M_cd v3))), ((q 14), aZ K 32 (M_hasData (M_rd v3))), ((q 15), aI K 314 (M_s (M_rn v3))), ((q 16), aI K 314 (M_aside (M_ex v3))), ((q 17), aI K 314 (M_further (M_ex v3))), ((q 18), aI K 314 (M_image (M_im v3))), ((q 19), aI K 3 (M_sizeNow (M_rn v3))), ((q 20), aI K 8 (M_aloneRegister (M_al v3))), ((q 21), aI K 4 (M_aloneReal (M_al v3))), ((q 22), aI K 32 (M_aloneMemory (M_al v3))), ((q 23), aI K 999 (M_aloneOutput (M_al v3)))]) cx cf_X10 0 25 rfl (by decide) (Nat.le_of_ble_eq_true rfl) rfl pfd_I wd_1341 dX10_text_54 rfl ?_
        refine r_aload_n (pc := 57) cx dX10_text_57 0 rfl ?_
        refine r_get (pc := 58) cx cf_X10 0 22 rfl (by decide) rfl wd_1338 dX10_text_58 ?_
        refine r_if_eq (pc := 61) (tgt := 66) cx dX10_text_61 (by decide) (fun h8 => ?_) (fun h8 => ?_)
        · replace hf := ifp h8 hf
          refine r_aload_n (pc := 66) cx dX10_text_66 0 rfl ?_
          replace hf := bd_of hf
          obtain ⟨v9, hc10, hf⟩ := hf
          refine r_Vv (pc := 67) (ws' := [((q 0), ob 9 [.int (M_thrown v9), .ref (q 1), .int (M_taped (M_tp v9)), .ref (q 2), .ref (q 3), .ref (q 4), .ref (q 5), .ref (q 6), .ref (q 7), .ref (q 8), .ref (q 9), .ref (q 10), .ref (q 11), .ref (q 12), .ref (q 13), .ref (q 14), .int (M_lines (M_rd v9)), .int (M_size (M_rd v9)), .int (M_at (M_rd v9)), .int (M_place (M_rd v9)), .int (M_sort (M_rd v9)), .int (M_value (M_rd v9)), .int (M_fault (M_rd v9)), .int (M_faultPlace (M_rd v9)), .int (M_lastFault (M_lf v9)), .int (M_lastPlace (M_lf v9)), .ref (q 15), .ref (q 16), .ref (q 17), .ref (q 18), .int (M_hasImage (M_im v9)), .int (M_spanNow (M_rn v9)), .ref (q 19), .int (M_placeThen (M_rn v9)), .int (M_alonePlace (M_al v9)), .int (M_aloneSteps (M_al v9)), .int (M_aloneOut (M_al v9)), .ref (q 20), .ref (q 21), .ref (q 22), .ref (q 23), .int (M_shotAlarm (M_ex v9)), .int (M_drawn (M_ex v9))]), ((q 1), aI K 700 (M_tape (M_tp v9))), ((q 2), aI K 20 (M_number (M_cd v9))), ((q 3), aZ K 5 (M_isTold (M_rd v9))), ((q 4), aI K 80 (M_codeSort (M_cd v9))), ((q 5), aI K 80 (M_codeA (M_cd v9))), ((q 6), aI K 80 (M_codeB (M_cd v9))), ((q 7), aI K 80 (M_codeC (M_cd v9))), ((q 8), aI K 80 (M_codeName (M_cd v9))), ((q 9), aI K 80 (M_codePlace (M_cd v9))), ((q 10), aI K 80 (M_codeTo (M_cd v9))), ((q 11), aI K 280 (M_labelName (M_cd v9))), ((q 12), aI K 280 (M_labelAt (M_cd v9))), ((q 13), aI K 64 (M_data (M_cd v9))), ((q 14), aZ K 32 (M_hasData (M_rd v9))), ((q 15), aI K 314 (M_s (M_rn v9))), ((q 16), aI K 314 (M_aside (M_ex v9))), ((q 17), aI K 314 (M_further (M_ex v9))), ((q 18), aI K 314 (M_image (M_im v9))), ((q 19), aI K 3 (M_sizeNow (M_rn v9))), ((q 20), aI K 8 (M_aloneRegister (M_al v9))), ((q 21), aI K 4 (M_aloneReal (M_al v9))), ((q 22), aI K 32 (M_aloneMemory (M_al v9))), ((q 23), aI K 999 (M_aloneOutput (M_al v9)))]) (wc := [((q 0), ob 9 [.int (M_thrown v3), .ref (q 1), .int (0 : Int32), .ref (q 2), .ref (q 3), .ref (q 4), .ref (q 5), .ref (q 6), .ref (q 7), .ref (q 8), .ref (q 9), .ref (q 10), .ref (q 11), .ref (q 12), .ref (q 13), .ref (q 14), .int (M_lines (M_rd v3)), .int (M_size (M_rd v3)), .int (M_at (M_rd v3)), .int (M_place (M_rd v3)), .int (M_sort (M_rd v3)), .int (M_value (M_rd v3)), .int (M_fault (M_rd v3)), .int (M_faultPlace (M_rd v3)), .int x5, .int y6, .ref (q 15), .ref (q 16), .ref (q 17), .ref (q 18), .int (M_hasImage (M_im v3)), .int (M_spanNow (M_rn v3)), .ref (q 19), .int (M_placeThen (M_rn v3)), .int (M_alonePlace (M_al v3)), .int (M_aloneSteps (M_al v3)), .int (M_aloneOut (M_al v3)), .ref (q 20), .ref (q 21), .ref (q 22), .ref (q 23), .int (M_shotAlarm (M_ex v3)), .int (M_drawn (M_ex v3))]), ((q 1), aI K 700 (M_tape (M_tp v3))), ((q 2), aI K 20 (M_number (M_cd v3))), ((q 3), aZ K 5 (M_isTold (M_rd v3))), ((q 4), aI K 80 (M_codeSort (M_cd v3))), ((q 5), aI K 80 (M_codeA (M_cd v3))), ((q 6), aI K 80 (M_codeB (M_cd v3))), ((q 7), aI K 80 (M_codeC (M_cd v3))), ((q 8), aI K 80 (M_codeName (M_cd v3))), ((q 9), aI K 80 (M_codePlace (M_cd v3))), ((q 10), aI K 80 (M_codeTo (M_cd v3))), ((q 11), aI K 280 (M_labelName (M_cd v3))), ((q 12), aI K 280 (M_labelAt (M_cd v3))), ((q 13), aI K 64 (M_data (M_cd v3))), ((q 14), aZ K 32 (M_hasData (M_rd v3))), ((q 15), aI K 314 (M_s (M_rn v3))), ((q 16), aI K 314 (M_aside (M_ex v3))), ((q 17), aI K 314 (M_further (M_ex v3))), ((q 18), aI K 314 (M_image (M_im v3))), ((q 19), aI K 3 (M_sizeNow (M_rn v3))), ((q 20), aI K 8 (M_aloneRegister (M_al v3))), ((q 21), aI K 4 (M_aloneReal (M_al v3))), ((q 22), aI K 32 (M_aloneMemory (M_al v3))), ((q 23), aI K 999 (M_aloneOutput (M_al v3)))]) (nn := 24) cx [] [] (m_M_takeText l D K q (((M_tape (M_tp v3)), (0 : Int32)), (M_rd v3), (x5, y6), (M_cd v3), (M_rn v3), (M_ex v3), (M_im v3), (M_al v3), (M_thrown v3)) hc10) (by (try simp only [cl_M, M_tape_mk, M_taped_mk, M_tp_mk, M_lines_mk, M_size_mk, M_at_mk, M_place_mk, M_sort_mk, M_value_mk, M_fault_mk, M_faultPlace_mk, M_isTold_mk, M_hasData_mk, M_rd_mk, M_lastFault_mk, M_lastPlace_mk, M_lf_mk, M_number_mk, M_codeSort_mk, M_codeA_mk, M_codeB_mk, M_codeC_mk, M_codeName_mk, M_codePlace_mk, M_codeTo_mk, M_labelName_mk, M_labelAt_mk, M_data_mk, M_cd_mk, M_s_mk, M_spanNow_mk, M_sizeNow_mk, M_placeThen_mk, M_rn_mk, M_aside_mk, M_further_mk, M_shotAlarm_mk, M_drawn_mk, M_ex_mk, M_image_mk, M_hasImage_mk, M_im_mk, M_alonePlace_mk, M_aloneSteps_mk, M_aloneOut_mk, M_aloneRegister_mk, M_aloneReal_mk, M_aloneMemory_mk, M_aloneOutput_mk, M_al_mk, M_thrown_mk, List.cons_append, List.nil_append, List.append_nil]) <;> rfl) yv_X10_takeText wd_1292 ⟨rfl, rfl⟩ (by decide) (fr_s (j := 0) rfl rfl rfl (fr_s (j := 1) rfl rfl rfl (fr_s (j := 2) rfl rfl rfl (fr_s (j := 3) rfl rfl rfl (fr_s (j := 4) rfl rfl rfl (fr_s (j := 5) rfl rfl rfl (fr_s (j := 6) rfl rfl rfl (fr_s (j := 7) rfl rfl rfl (fr_s (j := 8) rfl rfl rfl (fr_s (j := 9) rfl rfl rfl (fr_s (j := 10) rfl rfl rfl (fr_s (j := 11) rfl rfl rfl (fr_s (j := 12) rfl rfl rfl (fr_s (j := 13) rfl rfl rfl (fr_s (j := 14) rfl rfl rfl (fr_s (j := 15) rfl rfl rfl (fr_s (j := 16) rfl rfl rfl (fr_s (j := 17) rfl rfl rfl (fr_s (j := 18) rfl rfl rfl (fr_s (j := 19) rfl rfl rfl (fr_s (j := 20) rfl rfl rfl (fr_s (j := 21) rfl rfl rfl (fr_s (j := 22) rfl rfl rfl (fr_s (j := 23) rfl rfl rfl (fr_n))))))))))))))))))))))))) rfl (by decide) 0 rfl rfl rfl (Nat.le_of_ble_eq_true rfl) dX10_text_67 ?_
          refine r_aload_n (pc := 70) cx dX10_text_70 0 rfl ?_
          replace hf := bd_of hf
          obtain ⟨v11, hc12, hf⟩ := hf
          refine r_Vv (pc := 71) (ws' := [((q 0), ob 9 [.int (M_thrown v11), .ref (q 1), .int (M_taped (M_tp v11)), .ref (q 2), .ref (q 3), .ref (q 4), .ref (q 5), .ref (q 6), .ref (q 7), .ref (q 8), .ref (q 9), .ref (q 10), .ref (q 11), .ref (q 12), .ref (q 13), .ref (q 14), .int (M_lines (M_rd v11)), .int (M_size (M_rd v11)), .int (M_at (M_rd v11)), .int (M_place (M_rd v11)), .int (M_sort (M_rd v11)), .int (M_value (M_rd v11)), .int (M_fault (M_rd v11)), .int (M_faultPlace (M_rd v11)), .int (M_lastFault (M_lf v11)), .int (M_lastPlace (M_lf v11)), .ref (q 15), .ref (q 16), .ref (q 17), .ref (q 18), .int (M_hasImage (M_im v11)), .int (M_spanNow (M_rn v11)), .ref (q 19), .int (M_placeThen (M_rn v11)), .int (M_alonePlace (M_al v11)), .int (M_aloneSteps (M_al v11)), .int (M_aloneOut (M_al v11)), .ref (q 20), .ref (q 21), .ref (q 22), .ref (q 23), .int (M_shotAlarm (M_ex v11)), .int (M_drawn (M_ex v11))]), ((q 1), aI K 700 (M_tape (M_tp v11))), ((q 2), aI K 20 (M_number (M_cd v11))), ((q 3), aZ K 5 (M_isTold (M_rd v11))), ((q 4), aI K 80 (M_codeSort (M_cd v11))), ((q 5), aI K 80 (M_codeA (M_cd v11))), ((q 6), aI K 80 (M_codeB (M_cd v11))), ((q 7), aI K 80 (M_codeC (M_cd v11))), ((q 8), aI K 80 (M_codeName (M_cd v11))), ((q 9), aI K 80 (M_codePlace (M_cd v11))), ((q 10), aI K 80 (M_codeTo (M_cd v11))), ((q 11), aI K 280 (M_labelName (M_cd v11))), ((q 12), aI K 280 (M_labelAt (M_cd v11))), ((q 13), aI K 64 (M_data (M_cd v11))), ((q 14), aZ K 32 (M_hasData (M_rd v11))), ((q 15), aI K 314 (M_s (M_rn v11))), ((q 16), aI K 314 (M_aside (M_ex v11))), ((q 17), aI K 314 (M_further (M_ex v11))), ((q 18), aI K 314 (M_image (M_im v11))), ((q 19), aI K 3 (M_sizeNow (M_rn v11))), ((q 20), aI K 8 (M_aloneRegister (M_al v11))), ((q 21), aI K 4 (M_aloneReal (M_al v11))), ((q 22), aI K 32 (M_aloneMemory (M_al v11))), ((q 23), aI K 999 (M_aloneOutput (M_al v11)))]) (wc := [((q 0), ob 9 [.int (M_thrown v9), .ref (q 1), .int (M_taped (M_tp v9)), .ref (q 2), .ref (q 3), .ref (q 4), .ref (q 5), .ref (q 6), .ref (q 7), .ref (q 8), .ref (q 9), .ref (q 10), .ref (q 11), .ref (q 12), .ref (q 13), .ref (q 14), .int (M_lines (M_rd v9)), .int (M_size (M_rd v9)), .int (M_at (M_rd v9)), .int (M_place (M_rd v9)), .int (M_sort (M_rd v9)), .int (M_value (M_rd v9)), .int (M_fault (M_rd v9)), .int (M_faultPlace (M_rd v9)), .int (M_lastFault (M_lf v9)), .int (M_lastPlace (M_lf v9)), .ref (q 15), .ref (q 16), .ref (q 17), .ref (q 18), .int (M_hasImage (M_im v9)), .int (M_spanNow (M_rn v9)), .ref (q 19), .int (M_placeThen (M_rn v9)), .int (M_alonePlace (M_al v9)), .int (M_aloneSteps (M_al v9)), .int (M_aloneOut (M_al v9)), .ref (q 20), .ref (q 21), .ref (q 22), .ref (q 23), .int (M_shotAlarm (M_ex v9)), .int (M_drawn (M_ex v9))]), ((q 1), aI K 700 (M_tape (M_tp v9))), ((q 2), aI K 20 (M_number (M_cd v9))), ((q 3), aZ K 5 (M_isTold (M_rd v9))), ((q 4), aI K 80 (M_codeSort (M_cd v9))), ((q 5), aI K 80 (M_codeA (M_cd v9))), ((q 6), aI K 80 (M_codeB (M_cd v9))), ((q 7), aI K 80 (M_codeC (M_cd v9))), ((q 8), aI K 80 (M_codeName (M_cd v9))), ((q 9), aI K 80 (M_codePlace (M_cd v9))), ((q 10), aI K 80 (M_codeTo (M_cd v9))), ((q 11), aI K 280 (M_labelName (M_cd v9))), ((q 12), aI K 280 (M_labelAt (M_cd v9))), ((q 13), aI K 64 (M_data (M_cd v9))), ((q 14), aZ K 32 (M_hasData (M_rd v9))), ((q 15), aI K 314 (M_s (M_rn v9))), ((q 16), aI K 314 (M_aside (M_ex v9))), ((q 17), aI K 314 (M_further (M_ex v9))), ((q 18), aI K 314 (M_image (M_im v9))), ((q 19), aI K 3 (M_sizeNow (M_rn v9))), ((q 20), aI K 8 (M_aloneRegister (M_al v9))), ((q 21), aI K 4 (M_aloneReal (M_al v9))), ((q 22), aI K 32 (M_aloneMemory (M_al v9))), ((q 23), aI K 999 (M_aloneOutput (M_al v9)))]) (nn := 24) cx [] [] (m_M_begins l D K q v9 hc12) rfl yv_X10_begins wd_1308 ⟨rfl, rfl⟩ (by decide) (fr_s (j := 0) rfl rfl rfl (fr_s (j := 1) rfl rfl rfl (fr_s (j := 2) rfl rfl rfl (fr_s (j := 3) rfl rfl rfl (fr_s (j := 4) rfl rfl rfl (fr_s (j := 5) rfl rfl rfl (fr_s (j := 6) rfl rfl rfl (fr_s (j := 7) rfl rfl rfl (fr_s (j := 8) rfl rfl rfl (fr_s (j := 9) rfl rfl rfl (fr_s (j := 10) rfl rfl rfl (fr_s (j := 11) rfl rfl rfl (fr_s (j := 12) rfl rfl rfl (fr_s (j := 13) rfl rfl rfl (fr_s (j := 14) rfl rfl rfl (fr_s (j := 15) rfl rfl rfl (fr_s (j := 16) rfl rfl rfl (fr_s (j := 17) rfl rfl rfl (fr_s (j := 18) rfl rfl rfl (fr_s (j := 19) rfl rfl rfl (fr_s (j := 20) rfl rfl rfl (fr_s (j := 21) rfl rfl rfl (fr_s (j := 22) rfl rfl rfl (fr_s (j := 23) rfl rfl rfl (fr_n))))))))))))))))))))))))) rfl (by decide) 0 rfl rfl rfl (Nat.le_of_ble_eq_true rfl) dX10_text_71 ?_
          refine r_aload_n (pc := 74) cx dX10_text_74 0 rfl ?_
          refine r_iconst (pc := 75) cx dX10_text_75 ic_0 ?_
          refine r_putZ (pc := 76) (ws' := [((q 0), ob 9 [.int (M_thrown v11), .ref (q 1), .int (M_taped (M_tp v11)), .ref (q 2), .ref (q 3), .ref (q 4), .ref (q 5), .ref (q 6), .ref (q 7), .ref (q 8), .ref (q 9), .ref (q 10), .ref (q 11), .ref (q 12), .ref (q 13), .ref (q 14), .int (M_lines (M_rd v11)), .int (M_size (M_rd v11)), .int (M_at (M_rd v11)), .int (M_place (M_rd v11)), .int (M_sort (M_rd v11)), .int (M_value (M_rd v11)), .int (M_fault (M_rd v11)), .int (M_faultPlace (M_rd v11)), .int (M_lastFault (M_lf v11)), .int (M_lastPlace (M_lf v11)), .ref (q 15), .ref (q 16), .ref (q 17), .ref (q 18), .int (0 : Int32), .int (M_spanNow (M_rn v11)), .ref (q 19), .int (M_placeThen (M_rn v11)), .int (M_alonePlace (M_al v11)), .int (M_aloneSteps (M_al v11)), .int (M_aloneOut (M_al v11)), .ref (q 20), .ref (q 21), .ref (q 22), .ref (q 23), .int (M_shotAlarm (M_ex v11)), .int (M_drawn (M_ex v11))]), ((q 1), aI K 700 (M_tape (M_tp v11))), ((q 2), aI K 20 (M_number (M_cd v11))), ((q 3), aZ K 5 (M_isTold (M_rd v11))), ((q 4), aI K 80 (M_codeSort (M_cd v11))), ((q 5), aI K 80 (M_codeA (M_cd v11))), ((q 6), aI K 80 (M_codeB (M_cd v11))), ((q 7), aI K 80 (M_codeC (M_cd v11))), ((q 8), aI K 80 (M_codeName (M_cd v11))), ((q 9), aI K 80 (M_codePlace (M_cd v11))), ((q 10), aI K 80 (M_codeTo (M_cd v11))), ((q 11), aI K 280 (M_labelName (M_cd v11))), ((q 12), aI K 280 (M_labelAt (M_cd v11))), ((q 13), aI K 64 (M_data (M_cd v11))), ((q 14), aZ K 32 (M_hasData (M_rd v11))), ((q 15), aI K 314 (M_s (M_rn v11))), ((q 16), aI K 314 (M_aside (M_ex v11))), ((q 17), aI K 314 (M_further (M_ex v11))), ((q 18), aI K 314 (M_image (M_im v11))), ((q 19), aI K 3 (M_sizeNow (M_rn v11))), ((q 20), aI K 8 (M_aloneRegister (M_al v11))), ((q 21), aI K 4 (M_aloneReal (M_al v11))), ((q 22), aI K 32 (M_aloneMemory (M_al v11))), ((q 23), aI K 999 (M_aloneOutput (M_al v11)))]) cx cf_X10 0 30 rfl (by decide) (Nat.le_of_ble_eq_true rfl) (Or.inl rfl) rfl pfd_Z wd_1346 dX10_text_76 rfl ?_
          refine r_aload_n (pc := 79) cx dX10_text_79 0 rfl ?_
          refine r_get (pc := 80) cx cf_X10 0 16 rfl (by decide) rfl wd_1332 dX10_text_80 ?_
          have hi := inj2 hf
          exact r_iret (pc := 83) cx hi.1 (by rw [← hi.2]; (try simp only [cl_M, M_tape_mk, M_taped_mk, M_tp_mk, M_lines_mk, M_size_mk, M_at_mk, M_place_mk, M_sort_mk, M_value_mk, M_fault_mk, M_faultPlace_mk, M_isTold_mk, M_hasData_mk, M_rd_mk, M_lastFault_mk, M_lastPlace_mk, M_lf_mk, M_number_mk, M_codeSort_mk, M_codeA_mk, M_codeB_mk, M_codeC_mk, M_codeName_mk, M_codePlace_mk, M_codeTo_mk, M_labelName_mk, M_labelAt_mk, M_data_mk, M_cd_mk, M_s_mk, M_spanNow_mk, M_sizeNow_mk, M_placeThen_mk, M_rn_mk, M_aside_mk, M_further_mk, M_shotAlarm_mk, M_drawn_mk, M_ex_mk, M_image_mk, M_hasImage_mk, M_im_mk, M_alonePlace_mk, M_aloneSteps_mk, M_aloneOut_mk, M_aloneRegister_mk, M_aloneReal_mk, M_aloneMemory_mk, M_aloneOutput_mk, M_al_mk, M_thrown_mk, List.cons_append, List.nil_append, List.append_nil]) <;> rfl) dX10_text_83
        · replace hf := ifn h8 hf
          refine r_iconst (pc := 64) cx dX10_text_64 ic_m1 ?_
          have hi := inj2 hf
          exact r_iret (pc := 65) cx hi.1 (by rw [← hi.2]; (try simp only [cl_M, M_tape_mk, M_taped_mk, M_tp_mk, M_lines_mk, M_size_mk, M_at_mk, M_place_mk, M_sort_mk, M_value_mk, M_fault_mk, M_faultPlace_mk, M_isTold_mk, M_hasData_mk, M_rd_mk, M_lastFault_mk, M_lastPlace_mk, M_lf_mk, M_number_mk, M_codeSort_mk, M_codeA_mk, M_codeB_mk, M_codeC_mk, M_codeName_mk, M_codePlace_mk, M_codeTo_mk, M_labelName_mk, M_labelAt_mk, M_data_mk, M_cd_mk, M_s_mk, M_spanNow_mk, M_sizeNow_mk, M_placeThen_mk, M_rn_mk, M_aside_mk, M_further_mk, M_shotAlarm_mk, M_drawn_mk, M_ex_mk, M_image_mk, M_hasImage_mk, M_im_mk, M_alonePlace_mk, M_aloneSteps_mk, M_aloneOut_mk, M_aloneRegister_mk, M_aloneReal_mk, M_aloneMemory_mk, M_aloneOutput_mk, M_al_mk, M_thrown_mk, List.cons_append, List.nil_append, List.append_nil]) <;> rfl) dX10_text_65
      refine r_if_ne (pc := 43) (tgt := 50) cx dX10_text_43 (by decide) (fun h13 => ?_) (fun h13 => ?_)
      · replace hf := ifn h13 hf
        refine r_aload_n (pc := 50) cx dX10_text_50 0 rfl ?_
        refine r_get (pc := 51) cx cf_X10 0 23 rfl (by decide) rfl wd_1339 dX10_text_51 ?_
        refine r_loc (loc' := [(0, .ref (q 0))]) [0] rfl ?_
        exact hJ7 _ hf
      · replace hf := ifp h13 hf
        refine r_iconst (pc := 46) cx dX10_text_46 ic_m1 ?_
        refine r_goto (pc := 47) (tgt := 54) cx dX10_text_47 (by decide) ?_
        refine r_loc (loc' := [(0, .ref (q 0))]) [0] rfl ?_
        exact hJ7 _ hf
    · replace hf := ifn h2 hf
      refine r_bipush (pc := 17) cx dX10_text_17 bp_m2 ?_
      have hi := inj2 hf
      exact r_iret (pc := 19) cx hi.1 (by rw [← hi.2]; (try simp only [cl_M, M_tape_mk, M_taped_mk, M_tp_mk, M_lines_mk, M_size_mk, M_at_mk, M_place_mk, M_sort_mk, M_value_mk, M_fault_mk, M_faultPlace_mk, M_isTold_mk, M_hasData_mk, M_rd_mk, M_lastFault_mk, M_lastPlace_mk, M_lf_mk, M_number_mk, M_codeSort_mk, M_codeA_mk, M_codeB_mk, M_codeC_mk, M_codeName_mk, M_codePlace_mk, M_codeTo_mk, M_labelName_mk, M_labelAt_mk, M_data_mk, M_cd_mk, M_s_mk, M_spanNow_mk, M_sizeNow_mk, M_placeThen_mk, M_rn_mk, M_aside_mk, M_further_mk, M_shotAlarm_mk, M_drawn_mk, M_ex_mk, M_image_mk, M_hasImage_mk, M_im_mk, M_alonePlace_mk, M_aloneSteps_mk, M_aloneOut_mk, M_aloneRegister_mk, M_aloneReal_mk, M_aloneMemory_mk, M_aloneOutput_mk, M_al_mk, M_thrown_mk, List.cons_append, List.nil_append, List.append_nil]) <;> rfl) dX10_text_19
theorem yv_X10_text : YV yX10_text cX10_text 2 (some .int) 1 := ⟨⟨by decide +kernel, by decide +kernel, by decide +kernel⟩, wd_1458, wd_102, wd_1456, wd_1457⟩
abbrev rm_M_fault : Room := { frames := 0, cells := 0, slots := 0, locals := 0 }
set_option maxRecDepth 100000 in
set_option maxHeartbeats 4000000 in
theorem m_M_fault (l : Launch) (D : va_G) (K : Nat → ClassId) (q : Nat → Nat) (v : T_M) (a1 : Int32) {r_ : Int32} {o_v : T_M} (hf : f_M_fault v a1 = some (r_, o_v)) : MI l yX10_fault cX10_fault 2 (some .int) rm_M_fault D K [.ref (q 0), .int a1] (cl_M K q v) r_ (cl_M K q o_v) := by
  refine MI_of (loc0 := [(0, .ref (q 0)), (1, .int a1)]) (by decide +kernel) rfl (Nat.le_of_ble_eq_true rfl) ?_
  intro p e s m args below meth c A cx
  unfold f_M_fault at hf
  refine r_ws (ws' := [((q 0), ob 9 [.int (M_thrown v), .ref (q 1), .int (M_taped (M_tp v)), .ref (q 2), .ref (q 3), .ref (q 4), .ref (q 5), .ref (q 6), .ref (q 7), .ref (q 8), .ref (q 9), .ref (q 10), .ref (q 11), .ref (q 12), .ref (q 13), .ref (q 14), .int (M_lines (M_rd v)), .int (M_size (M_rd v)), .int (M_at (M_rd v)), .int (M_place (M_rd v)), .int (M_sort (M_rd v)), .int (M_value (M_rd v)), .int (M_fault (M_rd v)), .int (M_faultPlace (M_rd v)), .int (M_lastFault (M_lf v)), .int (M_lastPlace (M_lf v)), .ref (q 15), .ref (q 16), .ref (q 17), .ref (q 18), .int (M_hasImage (M_im v)), .int (M_spanNow (M_rn v)), .ref (q 19), .int (M_placeThen (M_rn v)), .int (M_alonePlace (M_al v)), .int (M_aloneSteps (M_al v)), .int (M_aloneOut (M_al v)), .ref (q 20), .ref (q 21), .ref (q 22), .ref (q 23), .int (M_shotAlarm (M_ex v)), .int (M_drawn (M_ex v))]), ((q 1), aI K 700 (M_tape (M_tp v))), ((q 2), aI K 20 (M_number (M_cd v))), ((q 3), aZ K 5 (M_isTold (M_rd v))), ((q 4), aI K 80 (M_codeSort (M_cd v))), ((q 5), aI K 80 (M_codeA (M_cd v))), ((q 6), aI K 80 (M_codeB (M_cd v))), ((q 7), aI K 80 (M_codeC (M_cd v))), ((q 8), aI K 80 (M_codeName (M_cd v))), ((q 9), aI K 80 (M_codePlace (M_cd v))), ((q 10), aI K 80 (M_codeTo (M_cd v))), ((q 11), aI K 280 (M_labelName (M_cd v))), ((q 12), aI K 280 (M_labelAt (M_cd v))), ((q 13), aI K 64 (M_data (M_cd v))), ((q 14), aZ K 32 (M_hasData (M_rd v))), ((q 15), aI K 314 (M_s (M_rn v))), ((q 16), aI K 314 (M_aside (M_ex v))), ((q 17), aI K 314 (M_further (M_ex v))), ((q 18), aI K 314 (M_image (M_im v))), ((q 19), aI K 3 (M_sizeNow (M_rn v))), ((q 20), aI K 8 (M_aloneRegister (M_al v))), ((q 21), aI K 4 (M_aloneReal (M_al v))), ((q 22), aI K 32 (M_aloneMemory (M_al v))), ((q 23), aI K 999 (M_aloneOutput (M_al v)))]) rfl ?_
  refine r_aload_n (pc := 0) cx dX10_fault_0 0 rfl ?_
  refine r_iconst (pc := 1) cx dX10_fault_1 ic_0 ?_
  refine r_putI (pc := 2) (ws' := [((q 0), ob 9 [.int (0 : Int32), .ref (q 1), .int (M_taped (M_tp v)), .ref (q 2), .ref (q 3), .ref (q 4), .ref (q 5), .ref (q 6), .ref (q 7), .ref (q 8), .ref (q 9), .ref (q 10), .ref (q 11), .ref (q 12), .ref (q 13), .ref (q 14), .int (M_lines (M_rd v)), .int (M_size (M_rd v)), .int (M_at (M_rd v)), .int (M_place (M_rd v)), .int (M_sort (M_rd v)), .int (M_value (M_rd v)), .int (M_fault (M_rd v)), .int (M_faultPlace (M_rd v)), .int (M_lastFault (M_lf v)), .int (M_lastPlace (M_lf v)), .ref (q 15), .ref (q 16), .ref (q 17), .ref (q 18), .int (M_hasImage (M_im v)), .int (M_spanNow (M_rn v)), .ref (q 19), .int (M_placeThen (M_rn v)), .int (M_alonePlace (M_al v)), .int (M_aloneSteps (M_al v)), .int (M_aloneOut (M_al v)), .ref (q 20), .ref (q 21), .ref (q 22), .ref (q 23), .int (M_shotAlarm (M_ex v)), .int (M_drawn (M_ex v))]), ((q 1), aI K 700 (M_tape (M_tp v))), ((q 2), aI K 20 (M_number (M_cd v))), ((q 3), aZ K 5 (M_isTold (M_rd v))), ((q 4), aI K 80 (M_codeSort (M_cd v))), ((q 5), aI K 80 (M_codeA (M_cd v))), ((q 6), aI K 80 (M_codeB (M_cd v))), ((q 7), aI K 80 (M_codeC (M_cd v))), ((q 8), aI K 80 (M_codeName (M_cd v))), ((q 9), aI K 80 (M_codePlace (M_cd v))), ((q 10), aI K 80 (M_codeTo (M_cd v))), ((q 11), aI K 280 (M_labelName (M_cd v))), ((q 12), aI K 280 (M_labelAt (M_cd v))), ((q 13), aI K 64 (M_data (M_cd v))), ((q 14), aZ K 32 (M_hasData (M_rd v))), ((q 15), aI K 314 (M_s (M_rn v))), ((q 16), aI K 314 (M_aside (M_ex v))), ((q 17), aI K 314 (M_further (M_ex v))), ((q 18), aI K 314 (M_image (M_im v))), ((q 19), aI K 3 (M_sizeNow (M_rn v))), ((q 20), aI K 8 (M_aloneRegister (M_al v))), ((q 21), aI K 4 (M_aloneReal (M_al v))), ((q 22), aI K 32 (M_aloneMemory (M_al v))), ((q 23), aI K 999 (M_aloneOutput (M_al v)))]) cx cf_X10 0 0 rfl (by decide) (Nat.le_of_ble_eq_true rfl) rfl pfd_I wd_1316 dX10_fault_2 rfl ?_
  refine r_iload_n (pc := 5) cx dX10_fault_5 1 rfl ?_
  refine r_if_ne (pc := 6) (tgt := 16) cx dX10_fault_6 (by decide) (fun h1 => ?_) (fun h1 => ?_)
  · replace hf := ifn h1 hf
    refine r_iload_n (pc := 16) cx dX10_fault_16 1 rfl ?_
    refine r_iconst (pc := 17) cx dX10_fault_17 ic_1 ?_
    refine r_icmp_ne (pc := 18) (tgt := 28) cx dX10_fault_18 (by decide) (fun h2 => ?_) (fun h2 => ?_)
    · replace hf := ifn h2 hf
      refine r_iconst (pc := 28) cx dX10_fault_28 ic_m1 ?_
      have hi := inj2 hf
      exact r_iret (pc := 29) cx hi.1 (by rw [← hi.2]; (try simp only [cl_M, M_tape_mk, M_taped_mk, M_tp_mk, M_lines_mk, M_size_mk, M_at_mk, M_place_mk, M_sort_mk, M_value_mk, M_fault_mk, M_faultPlace_mk, M_isTold_mk, M_hasData_mk, M_rd_mk, M_lastFault_mk, M_lastPlace_mk, M_lf_mk, M_number_mk, M_codeSort_mk, M_codeA_mk, M_codeB_mk, M_codeC_mk, M_codeName_mk, M_codePlace_mk, M_codeTo_mk, M_labelName_mk, M_labelAt_mk, M_data_mk, M_cd_mk, M_s_mk, M_spanNow_mk, M_sizeNow_mk, M_placeThen_mk, M_rn_mk, M_aside_mk, M_further_mk, M_shotAlarm_mk, M_drawn_mk, M_ex_mk, M_image_mk, M_hasImage_mk, M_im_mk, M_alonePlace_mk, M_aloneSteps_mk, M_aloneOut_mk, M_aloneRegister_mk, M_aloneReal_mk, M_aloneMemory_mk, M_aloneOutput_mk, M_al_mk, M_thrown_mk, List.cons_append, List.nil_append, List.append_nil]) <;> rfl) dX10_fault_29
    · replace hf := ifp h2 hf
      refine r_aload_n (pc := 21) cx dX10_fault_21 0 rfl ?_
      refine r_get (pc := 22) cx cf_X10 0 25 rfl (by decide) rfl wd_1341 dX10_fault_22 ?_
      refine r_goto (pc := 25) (tgt := 29) cx dX10_fault_25 (by decide) ?_
      have hi := inj2 hf
      exact r_iret (pc := 29) cx hi.1 (by rw [← hi.2]; (try simp only [cl_M, M_tape_mk, M_taped_mk, M_tp_mk, M_lines_mk, M_size_mk, M_at_mk, M_place_mk, M_sort_mk, M_value_mk, M_fault_mk, M_faultPlace_mk, M_isTold_mk, M_hasData_mk, M_rd_mk, M_lastFault_mk, M_lastPlace_mk, M_lf_mk, M_number_mk, M_codeSort_mk, M_codeA_mk, M_codeB_mk, M_codeC_mk, M_codeName_mk, M_codePlace_mk, M_codeTo_mk, M_labelName_mk, M_labelAt_mk, M_data_mk, M_cd_mk, M_s_mk, M_spanNow_mk, M_sizeNow_mk, M_placeThen_mk, M_rn_mk, M_aside_mk, M_further_mk, M_shotAlarm_mk, M_drawn_mk, M_ex_mk, M_image_mk, M_hasImage_mk, M_im_mk, M_alonePlace_mk, M_aloneSteps_mk, M_aloneOut_mk, M_aloneRegister_mk, M_aloneReal_mk, M_aloneMemory_mk, M_aloneOutput_mk, M_al_mk, M_thrown_mk, List.cons_append, List.nil_append, List.append_nil]) <;> rfl) dX10_fault_29
  · replace hf := ifp h1 hf
    refine r_aload_n (pc := 9) cx dX10_fault_9 0 rfl ?_
    refine r_get (pc := 10) cx cf_X10 0 24 rfl (by decide) rfl wd_1340 dX10_fault_10 ?_
    refine r_goto (pc := 13) (tgt := 29) cx dX10_fault_13 (by decide) ?_
    have hi := inj2 hf
    exact r_iret (pc := 29) cx hi.1 (by rw [← hi.2]; (try simp only [cl_M, M_tape_mk, M_taped_mk, M_tp_mk, M_lines_mk, M_size_mk, M_at_mk, M_place_mk, M_sort_mk, M_value_mk, M_fault_mk, M_faultPlace_mk, M_isTold_mk, M_hasData_mk, M_rd_mk, M_lastFault_mk, M_lastPlace_mk, M_lf_mk, M_number_mk, M_codeSort_mk, M_codeA_mk, M_codeB_mk, M_codeC_mk, M_codeName_mk, M_codePlace_mk, M_codeTo_mk, M_labelName_mk, M_labelAt_mk, M_data_mk, M_cd_mk, M_s_mk, M_spanNow_mk, M_sizeNow_mk, M_placeThen_mk, M_rn_mk, M_aside_mk, M_further_mk, M_shotAlarm_mk, M_drawn_mk, M_ex_mk, M_image_mk, M_hasImage_mk, M_im_mk, M_alonePlace_mk, M_aloneSteps_mk, M_aloneOut_mk, M_aloneRegister_mk, M_aloneReal_mk, M_aloneMemory_mk, M_aloneOutput_mk, M_al_mk, M_thrown_mk, List.cons_append, List.nil_append, List.append_nil]) <;> rfl) dX10_fault_29
theorem yv_X10_fault : YV yX10_fault cX10_fault 2 (some .int) 1 := ⟨⟨by decide +kernel, by decide +kernel, by decide +kernel⟩, wd_1559, wd_102, wd_1557, wd_1558⟩
abbrev rm_M_named : Room := { frames := 1, cells := 0, slots := 0, locals := 24 }
set_option maxRecDepth 100000 in
set_option maxHeartbeats 4000000 in
theorem m_M_named (l : Launch) (D : va_G) (K : Nat → ClassId) (q : Nat → Nat) (v : T_M) (a1 : Int32) {r_ : Int32} {o_v : T_M} (hf : f_M_named v a1 = some (r_, o_v)) : MI l yX10_named cX10_named 3 (some .int) rm_M_named D K [.ref (q 0), .int a1] (cl_M K q v) r_ (cl_M K q o_v) := by
  refine MI_of (loc0 := [(0, .ref (q 0)), (1, .int a1)]) (by decide +kernel) rfl (Nat.le_of_ble_eq_true rfl) ?_
  intro p e s m args below meth c A cx
  unfold f_M_named at hf
  refine r_ws (ws' := [((q 0), ob 9 [.int (M_thrown v), .ref (q 1), .int (M_taped (M_tp v)), .ref (q 2), .ref (q 3), .ref (q 4), .ref (q 5), .ref (q 6), .ref (q 7), .ref (q 8), .ref (q 9), .ref (q 10), .ref (q 11), .ref (q 12), .ref (q 13), .ref (q 14), .int (M_lines (M_rd v)), .int (M_size (M_rd v)), .int (M_at (M_rd v)), .int (M_place (M_rd v)), .int (M_sort (M_rd v)), .int (M_value (M_rd v)), .int (M_fault (M_rd v)), .int (M_faultPlace (M_rd v)), .int (M_lastFault (M_lf v)), .int (M_lastPlace (M_lf v)), .ref (q 15), .ref (q 16), .ref (q 17), .ref (q 18), .int (M_hasImage (M_im v)), .int (M_spanNow (M_rn v)), .ref (q 19), .int (M_placeThen (M_rn v)), .int (M_alonePlace (M_al v)), .int (M_aloneSteps (M_al v)), .int (M_aloneOut (M_al v)), .ref (q 20), .ref (q 21), .ref (q 22), .ref (q 23), .int (M_shotAlarm (M_ex v)), .int (M_drawn (M_ex v))]), ((q 1), aI K 700 (M_tape (M_tp v))), ((q 2), aI K 20 (M_number (M_cd v))), ((q 3), aZ K 5 (M_isTold (M_rd v))), ((q 4), aI K 80 (M_codeSort (M_cd v))), ((q 5), aI K 80 (M_codeA (M_cd v))), ((q 6), aI K 80 (M_codeB (M_cd v))), ((q 7), aI K 80 (M_codeC (M_cd v))), ((q 8), aI K 80 (M_codeName (M_cd v))), ((q 9), aI K 80 (M_codePlace (M_cd v))), ((q 10), aI K 80 (M_codeTo (M_cd v))), ((q 11), aI K 280 (M_labelName (M_cd v))), ((q 12), aI K 280 (M_labelAt (M_cd v))), ((q 13), aI K 64 (M_data (M_cd v))), ((q 14), aZ K 32 (M_hasData (M_rd v))), ((q 15), aI K 314 (M_s (M_rn v))), ((q 16), aI K 314 (M_aside (M_ex v))), ((q 17), aI K 314 (M_further (M_ex v))), ((q 18), aI K 314 (M_image (M_im v))), ((q 19), aI K 3 (M_sizeNow (M_rn v))), ((q 20), aI K 8 (M_aloneRegister (M_al v))), ((q 21), aI K 4 (M_aloneReal (M_al v))), ((q 22), aI K 32 (M_aloneMemory (M_al v))), ((q 23), aI K 999 (M_aloneOutput (M_al v)))]) rfl ?_
  refine r_aload_n (pc := 0) cx dX10_named_0 0 rfl ?_
  refine r_iconst (pc := 1) cx dX10_named_1 ic_0 ?_
  refine r_putI (pc := 2) (ws' := [((q 0), ob 9 [.int (0 : Int32), .ref (q 1), .int (M_taped (M_tp v)), .ref (q 2), .ref (q 3), .ref (q 4), .ref (q 5), .ref (q 6), .ref (q 7), .ref (q 8), .ref (q 9), .ref (q 10), .ref (q 11), .ref (q 12), .ref (q 13), .ref (q 14), .int (M_lines (M_rd v)), .int (M_size (M_rd v)), .int (M_at (M_rd v)), .int (M_place (M_rd v)), .int (M_sort (M_rd v)), .int (M_value (M_rd v)), .int (M_fault (M_rd v)), .int (M_faultPlace (M_rd v)), .int (M_lastFault (M_lf v)), .int (M_lastPlace (M_lf v)), .ref (q 15), .ref (q 16), .ref (q 17), .ref (q 18), .int (M_hasImage (M_im v)), .int (M_spanNow (M_rn v)), .ref (q 19), .int (M_placeThen (M_rn v)), .int (M_alonePlace (M_al v)), .int (M_aloneSteps (M_al v)), .int (M_aloneOut (M_al v)), .ref (q 20), .ref (q 21), .ref (q 22), .ref (q 23), .int (M_shotAlarm (M_ex v)), .int (M_drawn (M_ex v))]), ((q 1), aI K 700 (M_tape (M_tp v))), ((q 2), aI K 20 (M_number (M_cd v))), ((q 3), aZ K 5 (M_isTold (M_rd v))), ((q 4), aI K 80 (M_codeSort (M_cd v))), ((q 5), aI K 80 (M_codeA (M_cd v))), ((q 6), aI K 80 (M_codeB (M_cd v))), ((q 7), aI K 80 (M_codeC (M_cd v))), ((q 8), aI K 80 (M_codeName (M_cd v))), ((q 9), aI K 80 (M_codePlace (M_cd v))), ((q 10), aI K 80 (M_codeTo (M_cd v))), ((q 11), aI K 280 (M_labelName (M_cd v))), ((q 12), aI K 280 (M_labelAt (M_cd v))), ((q 13), aI K 64 (M_data (M_cd v))), ((q 14), aZ K 32 (M_hasData (M_rd v))), ((q 15), aI K 314 (M_s (M_rn v))), ((q 16), aI K 314 (M_aside (M_ex v))), ((q 17), aI K 314 (M_further (M_ex v))), ((q 18), aI K 314 (M_image (M_im v))), ((q 19), aI K 3 (M_sizeNow (M_rn v))), ((q 20), aI K 8 (M_aloneRegister (M_al v))), ((q 21), aI K 4 (M_aloneReal (M_al v))), ((q 22), aI K 32 (M_aloneMemory (M_al v))), ((q 23), aI K 999 (M_aloneOutput (M_al v)))]) cx cf_X10 0 0 rfl (by decide) (Nat.le_of_ble_eq_true rfl) rfl pfd_I wd_1316 dX10_named_2 rfl ?_
  refine r_aload_n (pc := 5) cx dX10_named_5 0 rfl ?_
  refine r_iconst (pc := 6) cx dX10_named_6 ic_0 ?_
  refine r_aload_n (pc := 7) cx dX10_named_7 0 rfl ?_
  refine r_get (pc := 8) cx cf_X10 0 3 rfl (by decide) rfl wd_1319 dX10_named_8 ?_
  refine r_bipush (pc := 11) cx dX10_named_11 bp_9 ?_
  refine r_iald (pc := 13) cx 2 rfl (by decide) dX10_named_13 ?_
  refine r_iload_n (pc := 14) cx dX10_named_14 1 rfl ?_
  replace hf := bd_of hf
  obtain ⟨r1, hc2, hf⟩ := hf
  refine r_Vi (pc := 15) (ws' := [((q 0), ob 9 [.int (0 : Int32), .ref (q 1), .int (M_taped (M_tp v)), .ref (q 2), .ref (q 3), .ref (q 4), .ref (q 5), .ref (q 6), .ref (q 7), .ref (q 8), .ref (q 9), .ref (q 10), .ref (q 11), .ref (q 12), .ref (q 13), .ref (q 14), .int (M_lines (M_rd v)), .int (M_size (M_rd v)), .int (M_at (M_rd v)), .int (M_place (M_rd v)), .int (M_sort (M_rd v)), .int (M_value (M_rd v)), .int (M_fault (M_rd v)), .int (M_faultPlace (M_rd v)), .int (M_lastFault (M_lf v)), .int (M_lastPlace (M_lf v)), .ref (q 15), .ref (q 16), .ref (q 17), .ref (q 18), .int (M_hasImage (M_im v)), .int (M_spanNow (M_rn v)), .ref (q 19), .int (M_placeThen (M_rn v)), .int (M_alonePlace (M_al v)), .int (M_aloneSteps (M_al v)), .int (M_aloneOut (M_al v)), .ref (q 20), .ref (q 21), .ref (q 22), .ref (q 23), .int (M_shotAlarm (M_ex v)), .int (M_drawn (M_ex v))]), ((q 1), aI K 700 (M_tape (M_tp v))), ((q 2), aI K 20 (M_number (M_cd v))), ((q 3), aZ K 5 (M_isTold (M_rd v))), ((q 4), aI K 80 (M_codeSort (M_cd v))), ((q 5), aI K 80 (M_codeA (M_cd v))), ((q 6), aI K 80 (M_codeB (M_cd v))), ((q 7), aI K 80 (M_codeC (M_cd v))), ((q 8), aI K 80 (M_codeName (M_cd v))), ((q 9), aI K 80 (M_codePlace (M_cd v))), ((q 10), aI K 80 (M_codeTo (M_cd v))), ((q 11), aI K 280 (M_labelName (M_cd v))), ((q 12), aI K 280 (M_labelAt (M_cd v))), ((q 13), aI K 64 (M_data (M_cd v))), ((q 14), aZ K 32 (M_hasData (M_rd v))), ((q 15), aI K 314 (M_s (M_rn v))), ((q 16), aI K 314 (M_aside (M_ex v))), ((q 17), aI K 314 (M_further (M_ex v))), ((q 18), aI K 314 (M_image (M_im v))), ((q 19), aI K 3 (M_sizeNow (M_rn v))), ((q 20), aI K 8 (M_aloneRegister (M_al v))), ((q 21), aI K 4 (M_aloneReal (M_al v))), ((q 22), aI K 32 (M_aloneMemory (M_al v))), ((q 23), aI K 999 (M_aloneOutput (M_al v)))]) (wc := [((q 0), ob 9 [.int (0 : Int32), .ref (q 1), .int (M_taped (M_tp v)), .ref (q 2), .ref (q 3), .ref (q 4), .ref (q 5), .ref (q 6), .ref (q 7), .ref (q 8), .ref (q 9), .ref (q 10), .ref (q 11), .ref (q 12), .ref (q 13), .ref (q 14), .int (M_lines (M_rd v)), .int (M_size (M_rd v)), .int (M_at (M_rd v)), .int (M_place (M_rd v)), .int (M_sort (M_rd v)), .int (M_value (M_rd v)), .int (M_fault (M_rd v)), .int (M_faultPlace (M_rd v)), .int (M_lastFault (M_lf v)), .int (M_lastPlace (M_lf v)), .ref (q 15), .ref (q 16), .ref (q 17), .ref (q 18), .int (M_hasImage (M_im v)), .int (M_spanNow (M_rn v)), .ref (q 19), .int (M_placeThen (M_rn v)), .int (M_alonePlace (M_al v)), .int (M_aloneSteps (M_al v)), .int (M_aloneOut (M_al v)), .ref (q 20), .ref (q 21), .ref (q 22), .ref (q 23), .int (M_shotAlarm (M_ex v)), .int (M_drawn (M_ex v))]), ((q 1), aI K 700 (M_tape (M_tp v))), ((q 2), aI K 20 (M_number (M_cd v))), ((q 3), aZ K 5 (M_isTold (M_rd v))), ((q 4), aI K 80 (M_codeSort (M_cd v))), ((q 5), aI K 80 (M_codeA (M_cd v))), ((q 6), aI K 80 (M_codeB (M_cd v))), ((q 7), aI K 80 (M_codeC (M_cd v))), ((q 8), aI K 80 (M_codeName (M_cd v))), ((q 9), aI K 80 (M_codePlace (M_cd v))), ((q 10), aI K 80 (M_codeTo (M_cd v))), ((q 11), aI K 280 (M_labelName (M_cd v))), ((q 12), aI K 280 (M_labelAt (M_cd v))), ((q 13), aI K 64 (M_data (M_cd v))), ((q 14), aZ K 32 (M_hasData (M_rd v))), ((q 15), aI K 314 (M_s (M_rn v))), ((q 16), aI K 314 (M_aside (M_ex v))), ((q 17), aI K 314 (M_further (M_ex v))), ((q 18), aI K 314 (M_image (M_im v))), ((q 19), aI K 3 (M_sizeNow (M_rn v))), ((q 20), aI K 8 (M_aloneRegister (M_al v))), ((q 21), aI K 4 (M_aloneReal (M_al v))), ((q 22), aI K 32 (M_aloneMemory (M_al v))), ((q 23), aI K 999 (M_aloneOutput (M_al v)))]) (nn := 24) cx [.int (0 : Int32), .int ((M_number (M_cd v)) (9 : Int32).toNatClampNeg), .int a1] [] (m_M_labelled l D K q ((M_tp v), (M_rd v), (M_lf v), (M_cd v), (M_rn v), (M_ex v), (M_im v), (M_al v), (0 : Int32)) (0 : Int32) ((M_number (M_cd v)) (9 : Int32).toNatClampNeg) a1 hc2) (by (try simp only [cl_M, M_tape_mk, M_taped_mk, M_tp_mk, M_lines_mk, M_size_mk, M_at_mk, M_place_mk, M_sort_mk, M_value_mk, M_fault_mk, M_faultPlace_mk, M_isTold_mk, M_hasData_mk, M_rd_mk, M_lastFault_mk, M_lastPlace_mk, M_lf_mk, M_number_mk, M_codeSort_mk, M_codeA_mk, M_codeB_mk, M_codeC_mk, M_codeName_mk, M_codePlace_mk, M_codeTo_mk, M_labelName_mk, M_labelAt_mk, M_data_mk, M_cd_mk, M_s_mk, M_spanNow_mk, M_sizeNow_mk, M_placeThen_mk, M_rn_mk, M_aside_mk, M_further_mk, M_shotAlarm_mk, M_drawn_mk, M_ex_mk, M_image_mk, M_hasImage_mk, M_im_mk, M_alonePlace_mk, M_aloneSteps_mk, M_aloneOut_mk, M_aloneRegister_mk, M_aloneReal_mk, M_aloneMemory_mk, M_aloneOutput_mk, M_al_mk, M_thrown_mk, List.cons_append, List.nil_append, List.append_nil]) <;> rfl) yv_X10_labelled wd_1533 ⟨rfl, rfl⟩ (by decide) (fr_s (j := 0) rfl rfl rfl (fr_s (j := 1) rfl rfl rfl (fr_s (j := 2) rfl rfl rfl (fr_s (j := 3) rfl rfl rfl (fr_s (j := 4) rfl rfl rfl (fr_s (j := 5) rfl rfl rfl (fr_s (j := 6) rfl rfl rfl (fr_s (j := 7) rfl rfl rfl (fr_s (j := 8) rfl rfl rfl (fr_s (j := 9) rfl rfl rfl (fr_s (j := 10) rfl rfl rfl (fr_s (j := 11) rfl rfl rfl (fr_s (j := 12) rfl rfl rfl (fr_s (j := 13) rfl rfl rfl (fr_s (j := 14) rfl rfl rfl (fr_s (j := 15) rfl rfl rfl (fr_s (j := 16) rfl rfl rfl (fr_s (j := 17) rfl rfl rfl (fr_s (j := 18) rfl rfl rfl (fr_s (j := 19) rfl rfl rfl (fr_s (j := 20) rfl rfl rfl (fr_s (j := 21) rfl rfl rfl (fr_s (j := 22) rfl rfl rfl (fr_s (j := 23) rfl rfl rfl (fr_n))))))))))))))))))))))))) rfl (by decide) 0 rfl rfl rfl (Nat.le_of_ble_eq_true rfl) dX10_named_15 ?_
  refine r_istore_n (pc := 18) (loc' := [(2, .int r1), (0, .ref (q 0)), (1, .int a1)]) cx dX10_named_18 rfl (by decide) rfl ?_
  refine r_iload_n (pc := 19) cx dX10_named_19 0 rfl ?_
  refine r_iconst (pc := 20) cx dX10_named_20 ic_m1 ?_
  refine r_icmp_ne (pc := 21) (tgt := 28) cx dX10_named_21 (by decide) (fun h3 => ?_) (fun h3 => ?_)
  · replace hf := ifn h3 hf
    refine r_aload_n (pc := 28) cx dX10_named_28 1 rfl ?_
    refine r_get (pc := 29) cx cf_X10 0 13 rfl (by decide) rfl wd_1329 dX10_named_29 ?_
    refine r_iload_n (pc := 32) cx dX10_named_32 0 rfl ?_
    replace hf := chk_of hf
    obtain ⟨h4, hf⟩ := hf
    refine r_iald (pc := 33) cx 12 rfl h4 dX10_named_33 ?_
    have hi := inj2 hf
    exact r_iret (pc := 34) cx hi.1 (by rw [← hi.2]; (try simp only [cl_M, M_tape_mk, M_taped_mk, M_tp_mk, M_lines_mk, M_size_mk, M_at_mk, M_place_mk, M_sort_mk, M_value_mk, M_fault_mk, M_faultPlace_mk, M_isTold_mk, M_hasData_mk, M_rd_mk, M_lastFault_mk, M_lastPlace_mk, M_lf_mk, M_number_mk, M_codeSort_mk, M_codeA_mk, M_codeB_mk, M_codeC_mk, M_codeName_mk, M_codePlace_mk, M_codeTo_mk, M_labelName_mk, M_labelAt_mk, M_data_mk, M_cd_mk, M_s_mk, M_spanNow_mk, M_sizeNow_mk, M_placeThen_mk, M_rn_mk, M_aside_mk, M_further_mk, M_shotAlarm_mk, M_drawn_mk, M_ex_mk, M_image_mk, M_hasImage_mk, M_im_mk, M_alonePlace_mk, M_aloneSteps_mk, M_aloneOut_mk, M_aloneRegister_mk, M_aloneReal_mk, M_aloneMemory_mk, M_aloneOutput_mk, M_al_mk, M_thrown_mk, List.cons_append, List.nil_append, List.append_nil]) <;> rfl) dX10_named_34
  · replace hf := ifp h3 hf
    refine r_iconst (pc := 24) cx dX10_named_24 ic_m1 ?_
    refine r_goto (pc := 25) (tgt := 34) cx dX10_named_25 (by decide) ?_
    have hi := inj2 hf
    exact r_iret (pc := 34) cx hi.1 (by rw [← hi.2]; (try simp only [cl_M, M_tape_mk, M_taped_mk, M_tp_mk, M_lines_mk, M_size_mk, M_at_mk, M_place_mk, M_sort_mk, M_value_mk, M_fault_mk, M_faultPlace_mk, M_isTold_mk, M_hasData_mk, M_rd_mk, M_lastFault_mk, M_lastPlace_mk, M_lf_mk, M_number_mk, M_codeSort_mk, M_codeA_mk, M_codeB_mk, M_codeC_mk, M_codeName_mk, M_codePlace_mk, M_codeTo_mk, M_labelName_mk, M_labelAt_mk, M_data_mk, M_cd_mk, M_s_mk, M_spanNow_mk, M_sizeNow_mk, M_placeThen_mk, M_rn_mk, M_aside_mk, M_further_mk, M_shotAlarm_mk, M_drawn_mk, M_ex_mk, M_image_mk, M_hasImage_mk, M_im_mk, M_alonePlace_mk, M_aloneSteps_mk, M_aloneOut_mk, M_aloneRegister_mk, M_aloneReal_mk, M_aloneMemory_mk, M_aloneOutput_mk, M_al_mk, M_thrown_mk, List.cons_append, List.nil_append, List.append_nil]) <;> rfl) dX10_named_34
theorem yv_X10_named : YV yX10_named cX10_named 3 (some .int) 1 := ⟨⟨by decide +kernel, by decide +kernel, by decide +kernel⟩, wd_1563, wd_102, wd_1561, wd_1562⟩
abbrev rm_M_isLost : Room := { frames := 0, cells := 0, slots := 0, locals := 0 }
set_option maxRecDepth 100000 in
set_option maxHeartbeats 4000000 in
theorem m_M_isLost (l : Launch) (D : va_G) (K : Nat → ClassId) (a0 : Int32) {r_ : Int32} (hf : f_M_isLost a0 = some r_) : MI l yX10_isLost cX10_isLost 1 (some .boolean) rm_M_isLost D K [.int a0] ([]) r_ ([]) := by
  refine MI_of (loc0 := [(0, .int a0)]) (by decide +kernel) rfl (Nat.le_of_ble_eq_true rfl) ?_
  intro p e s m args below meth c A cx
  unfold f_M_isLost at hf
  refine r_ws (ws' := []) rfl ?_
  refine r_iload_n (pc := 0) cx dX10_isLost_0 0 rfl ?_
  refine r_ldc (pc := 1) cx dX10_isLost_1 wd_1646 ?_
  refine r_iand (pc := 3) cx dX10_isLost_3 ?_
  refine r_ldc (pc := 4) cx dX10_isLost_4 wd_1646 ?_
  refine r_icmp_ne (pc := 6) (tgt := 13) cx dX10_isLost_6 (by decide) (fun h1 => ?_) (fun h1 => ?_)
  · replace hf := ifn h1 hf
    refine r_iconst (pc := 13) cx dX10_isLost_13 ic_0 ?_
    have hi := inj1 hf
    exact r_zret (pc := 14) cx (Or.inl rfl) hi rfl dX10_isLost_14
  · replace hf := ifp h1 hf
    refine r_iconst (pc := 9) cx dX10_isLost_9 ic_1 ?_
    refine r_goto (pc := 10) (tgt := 14) cx dX10_isLost_10 (by decide) ?_
    have hi := inj1 hf
    exact r_zret (pc := 14) cx (Or.inr rfl) hi rfl dX10_isLost_14
theorem ys_X10_isLost : YS yX10_isLost cX10_isLost 1 (some .boolean) 1 := ⟨⟨by decide +kernel, by decide +kernel, by decide +kernel⟩, wd_1645, wd_102, wd_1644⟩
abbrev rm_M_worth : Room := { frames := 1, cells := 0, slots := 0, locals := 34 }
set_option maxRecDepth 100000 in
set_option maxHeartbeats 4000000 in
theorem m_M_worth (l : Launch) (D : va_G) (K : Nat → ClassId) (a0 : Int32) {r_ : UInt64} (hf : f_M_worth a0 = some r_) : MD l yX10_worth cX10_worth 1 (some .double) rm_M_worth D K [.int a0] ([]) r_ ([]) := by
  refine MD_of (loc0 := [(0, .int a0)]) (by decide +kernel) rfl (Nat.le_of_ble_eq_true rfl) ?_
  intro p e s m args below meth c A cx
  unfold f_M_worth at hf
  refine r_ws (ws' := []) rfl ?_
  refine r_iload_n (pc := 0) cx dX10_worth_0 0 rfl ?_
  replace hf := chk_of hf
  obtain ⟨h1, hf⟩ := hf
  refine r_bits2f (pc := 1) cx h1 wd_1650 wd_1652 wd_1651 wd_108 (by decide) (Nat.le_of_ble_eq_true rfl) dX10_worth_1 ?_
  replace hf := chk_of hf
  obtain ⟨h2, hf⟩ := hf
  refine r_f2d (pc := 4) cx dX10_worth_4 h2 ?_
  have hi := inj1 hf
  exact r_dret (pc := 5) cx hi rfl dX10_worth_5
theorem ys_X10_worth : YS yX10_worth cX10_worth 1 (some .double) 1 := ⟨⟨by decide +kernel, by decide +kernel, by decide +kernel⟩, wd_1649, wd_102, wd_1648⟩
abbrev rm_J_isNaN_12338 : Room := { frames := 0, cells := 0, slots := 0, locals := 0 }
set_option maxRecDepth 100000 in
set_option maxHeartbeats 4000000 in
theorem m_J_isNaN_12338 (l : Launch) (D : va_G) (K : Nat → ClassId) (a0 : UInt32) {r_ : Int32} (hf : f_J_isNaN_12338 a0 = some r_) : MI l yJxf58ca_isNaN_12338 cJxf58ca_isNaN_12338 1 (some .boolean) rm_J_isNaN_12338 D K [.float a0] ([]) r_ ([]) := by
  refine MI_of (loc0 := [(0, .float a0)]) (by decide +kernel) rfl (Nat.le_of_ble_eq_true rfl) ?_
  intro p e s m args below meth c A cx
  unfold f_J_isNaN_12338 at hf
  refine r_ws (ws' := []) rfl ?_
  refine r_fload_n (pc := 0) cx dJxf58ca_isNaN_12338_0 0 rfl ?_
  refine r_fload_n (pc := 1) cx dJxf58ca_isNaN_12338_1 0 rfl ?_
  refine r_fcmpl (pc := 2) cx dJxf58ca_isNaN_12338_2 ?_
  refine r_if_eq (pc := 3) (tgt := 10) cx dJxf58ca_isNaN_12338_3 (by decide) (fun h1 => ?_) (fun h1 => ?_)
  · replace hf := ifp h1 hf
    refine r_iconst (pc := 10) cx dJxf58ca_isNaN_12338_10 ic_0 ?_
    have hi := inj1 hf
    exact r_zret (pc := 11) cx (Or.inl rfl) hi rfl dJxf58ca_isNaN_12338_11
  · replace hf := ifn h1 hf
    refine r_iconst (pc := 6) cx dJxf58ca_isNaN_12338_6 ic_1 ?_
    refine r_goto (pc := 7) (tgt := 11) cx dJxf58ca_isNaN_12338_7 (by decide) ?_
    have hi := inj1 hf
    exact r_zret (pc := 11) cx (Or.inr rfl) hi rfl dJxf58ca_isNaN_12338_11
theorem ys_Jxf58ca_isNaN_12338 : YS yJxf58ca_isNaN_12338 cJxf58ca_isNaN_12338 1 (some .boolean) 1 := ⟨⟨by decide +kernel, by decide +kernel, by decide +kernel⟩, wd_1635, wd_108, wd_1634⟩
abbrev rm_J_floatToIntBits_5c35a : Room := { frames := 1, cells := 0, slots := 0, locals := 34 }
set_option maxRecDepth 100000 in
set_option maxHeartbeats 4000000 in
theorem m_J_floatToIntBits_5c35a (l : Launch) (D : va_G) (K : Nat → ClassId) (a0 : UInt32) {r_ : Int32} (hf : f_J_floatToIntBits_5c35a a0 = some r_) : MI l yJxf58ca_floatToIntBits_5c35a cJxf58ca_floatToIntBits_5c35a 1 (some .int) rm_J_floatToIntBits_5c35a D K [.float a0] ([]) r_ ([]) := by
  refine MI_of (loc0 := [(0, .float a0)]) (by decide +kernel) rfl (Nat.le_of_ble_eq_true rfl) ?_
  intro p e s m args below meth c A cx
  unfold f_J_floatToIntBits_5c35a at hf
  refine r_ws (ws' := []) rfl ?_
  refine r_fload_n (pc := 0) cx dJxf58ca_floatToIntBits_5c35a_0 0 rfl ?_
  replace hf := bd_of hf
  obtain ⟨r1, hc2, hf⟩ := hf
  refine r_Si (pc := 1) (ws' := []) (wc := []) (nn := 0) cx [.float a0] [] (m_J_isNaN_12338 l D K a0 hc2) rfl ys_Jxf58ca_isNaN_12338 wd_1633 ⟨rfl, rfl⟩ (by decide) (fr_n) rfl (by decide) rfl (Nat.le_of_ble_eq_true rfl) dJxf58ca_floatToIntBits_5c35a_1 ?_
  refine r_if_ne (pc := 4) (tgt := 12) cx dJxf58ca_floatToIntBits_5c35a_4 (by decide) (fun h3 => ?_) (fun h3 => ?_)
  · replace hf := ifn h3 hf
    refine r_ldc (pc := 12) cx dJxf58ca_floatToIntBits_5c35a_12 wd_1639 ?_
    have hi := inj1 hf
    exact r_iret (pc := 14) cx hi rfl dJxf58ca_floatToIntBits_5c35a_14
  · replace hf := ifp h3 hf
    refine r_fload_n (pc := 7) cx dJxf58ca_floatToIntBits_5c35a_7 0 rfl ?_
    refine r_f2bits (pc := 8) cx wd_1636 wd_1638 wd_1637 wd_108 (by decide) (Nat.le_of_ble_eq_true rfl) dJxf58ca_floatToIntBits_5c35a_8 ?_
    have hi := inj1 hf
    exact r_iret (pc := 11) cx hi rfl dJxf58ca_floatToIntBits_5c35a_11
theorem ys_Jxf58ca_floatToIntBits_5c35a : YS yJxf58ca_floatToIntBits_5c35a cJxf58ca_floatToIntBits_5c35a 1 (some .int) 1 := ⟨⟨by decide +kernel, by decide +kernel, by decide +kernel⟩, wd_1632, wd_108, wd_1631⟩
abbrev rm_M_cut : Room := { frames := 2, cells := 0, slots := 0, locals := 54 }
set_option maxRecDepth 100000 in
set_option maxHeartbeats 4000000 in
theorem m_M_cut (l : Launch) (D : va_G) (K : Nat → ClassId) (a0 : UInt64) {r_ : Int32} (hf : f_M_cut a0 = some r_) : MI l yX10_cut cX10_cut 2 (some .int) rm_M_cut D K [.double a0] ([]) r_ ([]) := by
  refine MI_of (loc0 := [(0, .double a0)]) (by decide +kernel) rfl (Nat.le_of_ble_eq_true rfl) ?_
  intro p e s m args below meth c A cx
  unfold f_M_cut at hf
  refine r_ws (ws' := []) rfl ?_
  refine r_dload_n (pc := 0) cx dX10_cut_0 0 rfl ?_
  replace hf := chk_of hf
  obtain ⟨h1, hf⟩ := hf
  refine r_d2f (pc := 1) cx dX10_cut_1 h1 ?_
  replace hf := bd_of hf
  obtain ⟨r2, hc3, hf⟩ := hf
  refine r_Si (pc := 2) (ws' := []) (wc := []) (nn := 0) cx [.float (FP.d2f a0)] [] (m_J_floatToIntBits_5c35a l D K (FP.d2f a0) hc3) rfl ys_Jxf58ca_floatToIntBits_5c35a wd_1630 ⟨rfl, rfl⟩ (by decide) (fr_n) rfl (by decide) rfl (Nat.le_of_ble_eq_true rfl) dX10_cut_2 ?_
  have hi := inj1 hf
  exact r_iret (pc := 5) cx hi rfl dX10_cut_5
theorem ys_X10_cut : YS yX10_cut cX10_cut 2 (some .int) 1 := ⟨⟨by decide +kernel, by decide +kernel, by decide +kernel⟩, wd_1629, wd_102, wd_1628⟩
abbrev rm_M_added : Room := { frames := 3, cells := 0, slots := 0, locals := 75 }
set_option maxRecDepth 100000 in
set_option maxHeartbeats 4000000 in
theorem m_M_added (l : Launch) (D : va_G) (K : Nat → ClassId) (a0 : Int32) (a1 : Int32) {r_ : Int32} (hf : f_M_added a0 a1 = some r_) : MI l yX10_added cX10_added 2 (some .int) rm_M_added D K [.int a0, .int a1] ([]) r_ ([]) := by
  refine MI_of (loc0 := [(0, .int a0), (1, .int a1)]) (by decide +kernel) rfl (Nat.le_of_ble_eq_true rfl) ?_
  intro p e s m args below meth c A cx
  unfold f_M_added at hf
  refine r_ws (ws' := []) rfl ?_
  refine r_iload_n (pc := 0) cx dX10_added_0 0 rfl ?_
  replace hf := bd_of hf
  obtain ⟨r1, hc2, hf⟩ := hf
  refine r_Si (pc := 1) (ws' := []) (wc := []) (nn := 0) cx [.int a0] [] (m_M_isLost l D K a0 hc2) rfl ys_X10_isLost wd_1643 ⟨rfl, rfl⟩ (by decide) (fr_n) rfl (by decide) rfl (Nat.le_of_ble_eq_true rfl) dX10_added_1 ?_
  refine r_if_ne (pc := 4) (tgt := 14) cx dX10_added_4 (by decide) (fun h3 => ?_) (fun h3 => ?_)
  · replace hf := ifn h3 hf
    refine r_ldc (pc := 14) cx dX10_added_14 wd_1656 ?_
    refine r_goto (pc := 16) (tgt := 31) cx dX10_added_16 (by decide) ?_
    have hi := inj1 hf
    exact r_iret (pc := 31) cx hi rfl dX10_added_31
  · replace hf := ifp h3 hf
    refine r_iload_n (pc := 7) cx dX10_added_7 1 rfl ?_
    replace hf := bd_of hf
    obtain ⟨r4, hc5, hf⟩ := hf
    refine r_Si (pc := 8) (ws' := []) (wc := []) (nn := 0) cx [.int a1] [] (m_M_isLost l D K a1 hc5) rfl ys_X10_isLost wd_1643 ⟨rfl, rfl⟩ (by decide) (fr_n) rfl (by decide) rfl (Nat.le_of_ble_eq_true rfl) dX10_added_8 ?_
    refine r_if_eq (pc := 11) (tgt := 19) cx dX10_added_11 (by decide) (fun h6 => ?_) (fun h6 => ?_)
    · replace hf := ifp h6 hf
      refine r_iload_n (pc := 19) cx dX10_added_19 0 rfl ?_
      replace hf := bd_of hf
      obtain ⟨r7, hc8, hf⟩ := hf
      refine r_Sd (pc := 20) (ws' := []) (wc := []) (nn := 0) cx [.int a0] [] (m_M_worth l D K a0 hc8) rfl ys_X10_worth wd_1647 ⟨rfl, rfl⟩ (by decide) (fr_n) rfl (by decide) rfl (Nat.le_of_ble_eq_true rfl) dX10_added_20 ?_
      refine r_iload_n (pc := 23) cx dX10_added_23 1 rfl ?_
      replace hf := bd_of hf
      obtain ⟨r9, hc10, hf⟩ := hf
      refine r_Sd (pc := 24) (ws' := []) (wc := []) (nn := 0) cx [.int a1] [.double r7] (m_M_worth l D K a1 hc10) rfl ys_X10_worth wd_1647 ⟨rfl, rfl⟩ (by decide) (fr_n) rfl (by decide) rfl (Nat.le_of_ble_eq_true rfl) dX10_added_24 ?_
      replace hf := chk_of hf
      obtain ⟨h11, hf⟩ := hf
      refine r_dadd (pc := 27) cx dX10_added_27 h11 ?_
      replace hf := bd_of hf
      obtain ⟨r12, hc13, hf⟩ := hf
      refine r_Si (pc := 28) (ws' := []) (wc := []) (nn := 0) cx [.double (FP.dadd r7 r9)] [] (m_M_cut l D K (FP.dadd r7 r9) hc13) rfl ys_X10_cut wd_1627 ⟨rfl, rfl⟩ (by decide) (fr_n) rfl (by decide) rfl (Nat.le_of_ble_eq_true rfl) dX10_added_28 ?_
      have hi := inj1 hf
      exact r_iret (pc := 31) cx hi rfl dX10_added_31
    · replace hf := ifn h6 hf
      refine r_ldc (pc := 14) cx dX10_added_14 wd_1656 ?_
      refine r_goto (pc := 16) (tgt := 31) cx dX10_added_16 (by decide) ?_
      have hi := inj1 hf
      exact r_iret (pc := 31) cx hi rfl dX10_added_31
theorem ys_X10_added : YS yX10_added cX10_added 2 (some .int) 2 := ⟨⟨by decide +kernel, by decide +kernel, by decide +kernel⟩, wd_1655, wd_102, wd_1654⟩
abbrev rm_M_multiplied : Room := { frames := 3, cells := 0, slots := 0, locals := 75 }
set_option maxRecDepth 100000 in
set_option maxHeartbeats 4000000 in
theorem m_M_multiplied (l : Launch) (D : va_G) (K : Nat → ClassId) (a0 : Int32) (a1 : Int32) {r_ : Int32} (hf : f_M_multiplied a0 a1 = some r_) : MI l yX10_multiplied cX10_multiplied 2 (some .int) rm_M_multiplied D K [.int a0, .int a1] ([]) r_ ([]) := by
  refine MI_of (loc0 := [(0, .int a0), (1, .int a1)]) (by decide +kernel) rfl (Nat.le_of_ble_eq_true rfl) ?_
  intro p e s m args below meth c A cx
  unfold f_M_multiplied at hf
  refine r_ws (ws' := []) rfl ?_
  refine r_iload_n (pc := 0) cx dX10_multiplied_0 0 rfl ?_
  replace hf := bd_of hf
  obtain ⟨r1, hc2, hf⟩ := hf
  refine r_Si (pc := 1) (ws' := []) (wc := []) (nn := 0) cx [.int a0] [] (m_M_isLost l D K a0 hc2) rfl ys_X10_isLost wd_1643 ⟨rfl, rfl⟩ (by decide) (fr_n) rfl (by decide) rfl (Nat.le_of_ble_eq_true rfl) dX10_multiplied_1 ?_
  refine r_if_ne (pc := 4) (tgt := 14) cx dX10_multiplied_4 (by decide) (fun h3 => ?_) (fun h3 => ?_)
  · replace hf := ifn h3 hf
    refine r_ldc (pc := 14) cx dX10_multiplied_14 wd_1656 ?_
    refine r_goto (pc := 16) (tgt := 31) cx dX10_multiplied_16 (by decide) ?_
    have hi := inj1 hf
    exact r_iret (pc := 31) cx hi rfl dX10_multiplied_31
  · replace hf := ifp h3 hf
    refine r_iload_n (pc := 7) cx dX10_multiplied_7 1 rfl ?_
    replace hf := bd_of hf
    obtain ⟨r4, hc5, hf⟩ := hf
    refine r_Si (pc := 8) (ws' := []) (wc := []) (nn := 0) cx [.int a1] [] (m_M_isLost l D K a1 hc5) rfl ys_X10_isLost wd_1643 ⟨rfl, rfl⟩ (by decide) (fr_n) rfl (by decide) rfl (Nat.le_of_ble_eq_true rfl) dX10_multiplied_8 ?_
    refine r_if_eq (pc := 11) (tgt := 19) cx dX10_multiplied_11 (by decide) (fun h6 => ?_) (fun h6 => ?_)
    · replace hf := ifp h6 hf
      refine r_iload_n (pc := 19) cx dX10_multiplied_19 0 rfl ?_
      replace hf := bd_of hf
      obtain ⟨r7, hc8, hf⟩ := hf
      refine r_Sd (pc := 20) (ws' := []) (wc := []) (nn := 0) cx [.int a0] [] (m_M_worth l D K a0 hc8) rfl ys_X10_worth wd_1647 ⟨rfl, rfl⟩ (by decide) (fr_n) rfl (by decide) rfl (Nat.le_of_ble_eq_true rfl) dX10_multiplied_20 ?_
      refine r_iload_n (pc := 23) cx dX10_multiplied_23 1 rfl ?_
      replace hf := bd_of hf
      obtain ⟨r9, hc10, hf⟩ := hf
      refine r_Sd (pc := 24) (ws' := []) (wc := []) (nn := 0) cx [.int a1] [.double r7] (m_M_worth l D K a1 hc10) rfl ys_X10_worth wd_1647 ⟨rfl, rfl⟩ (by decide) (fr_n) rfl (by decide) rfl (Nat.le_of_ble_eq_true rfl) dX10_multiplied_24 ?_
      replace hf := chk_of hf
      obtain ⟨h11, hf⟩ := hf
      refine r_dmul (pc := 27) cx dX10_multiplied_27 h11 ?_
      replace hf := bd_of hf
      obtain ⟨r12, hc13, hf⟩ := hf
      refine r_Si (pc := 28) (ws' := []) (wc := []) (nn := 0) cx [.double (FP.dmul r7 r9)] [] (m_M_cut l D K (FP.dmul r7 r9) hc13) rfl ys_X10_cut wd_1627 ⟨rfl, rfl⟩ (by decide) (fr_n) rfl (by decide) rfl (Nat.le_of_ble_eq_true rfl) dX10_multiplied_28 ?_
      have hi := inj1 hf
      exact r_iret (pc := 31) cx hi rfl dX10_multiplied_31
    · replace hf := ifn h6 hf
      refine r_ldc (pc := 14) cx dX10_multiplied_14 wd_1656 ?_
      refine r_goto (pc := 16) (tgt := 31) cx dX10_multiplied_16 (by decide) ?_
      have hi := inj1 hf
      exact r_iret (pc := 31) cx hi rfl dX10_multiplied_31
theorem ys_X10_multiplied : YS yX10_multiplied cX10_multiplied 2 (some .int) 2 := ⟨⟨by decide +kernel, by decide +kernel, by decide +kernel⟩, wd_1659, wd_102, wd_1658⟩
abbrev rm_M_whole : Room := { frames := 2, cells := 0, slots := 0, locals := 54 }
set_option maxRecDepth 100000 in
set_option maxHeartbeats 4000000 in
theorem m_M_whole (l : Launch) (D : va_G) (K : Nat → ClassId) (a0 : Int32) {r_ : Int32} (hf : f_M_whole a0 = some r_) : MI l yX10_whole cX10_whole 1 (some .int) rm_M_whole D K [.int a0] ([]) r_ ([]) := by
  refine MI_of (loc0 := [(0, .int a0)]) (by decide +kernel) rfl (Nat.le_of_ble_eq_true rfl) ?_
  intro p e s m args below meth c A cx
  unfold f_M_whole at hf
  refine r_ws (ws' := []) rfl ?_
  refine r_iload_n (pc := 0) cx dX10_whole_0 0 rfl ?_
  replace hf := bd_of hf
  obtain ⟨r1, hc2, hf⟩ := hf
  refine r_Si (pc := 1) (ws' := []) (wc := []) (nn := 0) cx [.int a0] [] (m_M_isLost l D K a0 hc2) rfl ys_X10_isLost wd_1643 ⟨rfl, rfl⟩ (by decide) (fr_n) rfl (by decide) rfl (Nat.le_of_ble_eq_true rfl) dX10_whole_1 ?_
  refine r_if_eq (pc := 4) (tgt := 11) cx dX10_whole_4 (by decide) (fun h3 => ?_) (fun h3 => ?_)
  · replace hf := ifp h3 hf
    refine r_iload_n (pc := 11) cx dX10_whole_11 0 rfl ?_
    replace hf := bd_of hf
    obtain ⟨r4, hc5, hf⟩ := hf
    refine r_Sd (pc := 12) (ws' := []) (wc := []) (nn := 0) cx [.int a0] [] (m_M_worth l D K a0 hc5) rfl ys_X10_worth wd_1647 ⟨rfl, rfl⟩ (by decide) (fr_n) rfl (by decide) rfl (Nat.le_of_ble_eq_true rfl) dX10_whole_12 ?_
    refine r_d2i (pc := 15) cx dX10_whole_15 ?_
    have hi := inj1 hf
    exact r_iret (pc := 16) cx hi rfl dX10_whole_16
  · replace hf := ifn h3 hf
    refine r_iconst (pc := 7) cx dX10_whole_7 ic_0 ?_
    refine r_goto (pc := 8) (tgt := 16) cx dX10_whole_8 (by decide) ?_
    have hi := inj1 hf
    exact r_iret (pc := 16) cx hi rfl dX10_whole_16
theorem ys_X10_whole : YS yX10_whole cX10_whole 1 (some .int) 1 := ⟨⟨by decide +kernel, by decide +kernel, by decide +kernel⟩, wd_1642, wd_102, wd_1641⟩
abbrev rm_M_copies : Room := { frames := 0, cells := 0, slots := 0, locals := 0 }
set_option maxRecDepth 100000 in
set_option maxHeartbeats 4000000 in
theorem m_M_copies (l : Launch) (D : va_G) (K : Nat → ClassId) (qa0 : Nat → Nat) (a0 : (Nat → Int32)) (qa1 : Nat → Nat) (a1 : (Nat → Int32)) {o_a1 : (Nat → Int32)} (hf : f_M_copies a0 a1 = some o_a1) : MV l yX10_copies cX10_copies 3 (none) rm_M_copies D K [.ref (qa0 0), .ref (qa1 0)] (cl_R K 314 qa0 a0 ++ (cl_R K 314 qa1 a1)) (cl_R K 314 qa0 a0 ++ (cl_R K 314 qa1 o_a1)) := by
  refine MV_of (loc0 := [(0, .ref (qa0 0)), (1, .ref (qa1 0))]) (by decide +kernel) rfl (Nat.le_of_ble_eq_true rfl) ?_
  intro p e s m args below meth c A cx
  unfold f_M_copies at hf
  refine r_ws (ws' := [((qa0 0), aI K 314 a0), ((qa1 0), aI K 314 a1)]) rfl ?_
  refine r_iconst (pc := 0) cx dX10_copies_0 ic_0 ?_
  refine r_istore_n (pc := 1) (loc' := [(2, .int (0 : Int32)), (0, .ref (qa0 0)), (1, .ref (qa1 0))]) cx dX10_copies_1 rfl (by decide) rfl ?_
  have hL2 : ∀ (k2_21 : (Nat → Int32) → Option ((Nat → Int32))), (∀ (f3 : (Nat → Int32)), k2_21 f3 = some o_a1 → WW p l e rm_M_copies s m args below meth c D A 3 0 0 (MQ below (QV D K A (cl_R K 314 qa0 a0 ++ (cl_R K 314 qa1 o_a1))) args s 0 0 A) ([((qa0 0), aI K 314 a0), ((qa1 0), aI K 314 f3)]) ([]) ([]) 21) → ∀ (n2 : Nat) (x1 : Int32) (f2 : (Nat → Int32)), f_M_copies_L2 a0 k2_21 n2 x1 f2 = some o_a1 → WW p l e rm_M_copies s m args below meth c D A 3 0 0 (MQ below (QV D K A (cl_R K 314 qa0 a0 ++ (cl_R K 314 qa1 o_a1))) args s 0 0 A) ([((qa0 0), aI K 314 a0), ((qa1 0), aI K 314 f2)]) ([(0, .ref (qa0 0)), (1, .ref (qa1 0)), (2, .int x1)]) ([]) 2 := by
    clear hf
    intro k2_21 hk2_21 n2
    induction n2 with
    | zero => intro x1 f2 hf; exact (nomatch (show (none : Option ((Nat → Int32))) = some _ from hf))
    | succ n2 ih2 =>
      intro x1 f2 hf
      rw [f_M_copies_L2] at hf
      refine r_iload_n (pc := 2) cx dX10_copies_2 2 rfl ?_
      refine r_sipush (pc := 3) cx dX10_copies_3 sp_314 ?_
      refine r_icmp_ge (pc := 6) (tgt := 21) cx dX10_copies_6 (by decide) (fun h4 => ?_) (fun h4 => ?_)
      · replace hf := ifp h4 hf
        refine r_loc (loc' := []) [] rfl ?_
        exact hk2_21 _ hf
      · replace hf := ifn h4 hf
        refine r_aload_n (pc := 9) cx dX10_copies_9 1 rfl ?_
        refine r_iload_n (pc := 10) cx dX10_copies_10 2 rfl ?_
        refine r_aload_n (pc := 11) cx dX10_copies_11 0 rfl ?_
        refine r_iload_n (pc := 12) cx dX10_copies_12 2 rfl ?_
        replace hf := chk_of hf
        obtain ⟨h5, hf⟩ := hf
        refine r_iald (pc := 13) cx 0 rfl h5 dX10_copies_13 ?_
        replace hf := nm_of hf
        obtain ⟨x6, ex6, hf⟩ := hf
        refine r_nm ex6 ?_
        replace hf := chk_of hf
        obtain ⟨h7, hf⟩ := hf
        replace hf := nm_of hf
        obtain ⟨f8, ef8, hf⟩ := hf
        refine r_iast (pc := 14) (ws' := [((qa0 0), aI K 314 a0), ((qa1 0), aI K 314 f8)]) cx 1 rfl h7 dX10_copies_14 ef8 rfl ?_
        replace hf := nm_of hf
        obtain ⟨x9, ex9, hf⟩ := hf
        refine r_iinc (pc := 15) (loc' := [(2, .int x9), (0, .ref (qa0 0)), (1, .ref (qa1 0))]) (v := x9) cx dX10_copies_15 2 rfl ((congrArg (fun z => x1 + z) ic_1).trans ex9.symm) (by decide) rfl ?_
        refine r_goto (pc := 18) (tgt := 2) cx dX10_copies_18 (by decide) ?_
        refine r_loc (loc' := [(0, .ref (qa0 0)), (1, .ref (qa1 0)), (2, .int x9)]) [1, 2, 0] rfl ?_
        exact ih2 _ _ hf
  refine r_loc (loc' := [(0, .ref (qa0 0)), (1, .ref (qa1 0)), (2, .int (0 : Int32))]) [1, 2, 0] rfl ?_
  refine hL2 _ (fun f3 hf => ?_) _ _ _ hf
  have hi := inj1 hf
  exact r_vret (pc := 21) cx (by rw [← hi]; rfl) dX10_copies_21
theorem ys_X10_copies : YS yX10_copies cX10_copies 3 (none) 2 := ⟨⟨by decide +kernel, by decide +kernel, by decide +kernel⟩, wd_1766, wd_102, wd_1765⟩
abbrev rm_M_ahead : Room := { frames := 0, cells := 0, slots := 0, locals := 0 }
set_option maxRecDepth 100000 in
set_option maxHeartbeats 4000000 in
theorem m_M_ahead (l : Launch) (D : va_G) (K : Nat → ClassId) (q : Nat → Nat) (v : T_M) {r_ : Int32} (hf : f_M_ahead v = some r_) : MI l yX10_ahead cX10_ahead 1 (some .int) rm_M_ahead D K [.ref (q 0)] (cl_M K q v) r_ (cl_M K q v) := by
  refine MI_of (loc0 := [(0, .ref (q 0))]) (by decide +kernel) rfl (Nat.le_of_ble_eq_true rfl) ?_
  intro p e s m args below meth c A cx
  unfold f_M_ahead at hf
  refine r_ws (ws' := [((q 0), ob 9 [.int (M_thrown v), .ref (q 1), .int (M_taped (M_tp v)), .ref (q 2), .ref (q 3), .ref (q 4), .ref (q 5), .ref (q 6), .ref (q 7), .ref (q 8), .ref (q 9), .ref (q 10), .ref (q 11), .ref (q 12), .ref (q 13), .ref (q 14), .int (M_lines (M_rd v)), .int (M_size (M_rd v)), .int (M_at (M_rd v)), .int (M_place (M_rd v)), .int (M_sort (M_rd v)), .int (M_value (M_rd v)), .int (M_fault (M_rd v)), .int (M_faultPlace (M_rd v)), .int (M_lastFault (M_lf v)), .int (M_lastPlace (M_lf v)), .ref (q 15), .ref (q 16), .ref (q 17), .ref (q 18), .int (M_hasImage (M_im v)), .int (M_spanNow (M_rn v)), .ref (q 19), .int (M_placeThen (M_rn v)), .int (M_alonePlace (M_al v)), .int (M_aloneSteps (M_al v)), .int (M_aloneOut (M_al v)), .ref (q 20), .ref (q 21), .ref (q 22), .ref (q 23), .int (M_shotAlarm (M_ex v)), .int (M_drawn (M_ex v))]), ((q 1), aI K 700 (M_tape (M_tp v))), ((q 2), aI K 20 (M_number (M_cd v))), ((q 3), aZ K 5 (M_isTold (M_rd v))), ((q 4), aI K 80 (M_codeSort (M_cd v))), ((q 5), aI K 80 (M_codeA (M_cd v))), ((q 6), aI K 80 (M_codeB (M_cd v))), ((q 7), aI K 80 (M_codeC (M_cd v))), ((q 8), aI K 80 (M_codeName (M_cd v))), ((q 9), aI K 80 (M_codePlace (M_cd v))), ((q 10), aI K 80 (M_codeTo (M_cd v))), ((q 11), aI K 280 (M_labelName (M_cd v))), ((q 12), aI K 280 (M_labelAt (M_cd v))), ((q 13), aI K 64 (M_data (M_cd v))), ((q 14), aZ K 32 (M_hasData (M_rd v))), ((q 15), aI K 314 (M_s (M_rn v))), ((q 16), aI K 314 (M_aside (M_ex v))), ((q 17), aI K 314 (M_further (M_ex v))), ((q 18), aI K 314 (M_image (M_im v))), ((q 19), aI K 3 (M_sizeNow (M_rn v))), ((q 20), aI K 8 (M_aloneRegister (M_al v))), ((q 21), aI K 4 (M_aloneReal (M_al v))), ((q 22), aI K 32 (M_aloneMemory (M_al v))), ((q 23), aI K 999 (M_aloneOutput (M_al v)))]) rfl ?_
  refine r_aload_n (pc := 0) cx dX10_ahead_0 0 rfl ?_
  refine r_get (pc := 1) cx cf_X10 0 26 rfl (by decide) rfl wd_1342 dX10_ahead_1 ?_
  refine r_iconst (pc := 4) cx dX10_ahead_4 ic_2 ?_
  refine r_iald (pc := 5) cx 15 rfl (by decide) dX10_ahead_5 ?_
  refine r_aload_n (pc := 6) cx dX10_ahead_6 0 rfl ?_
  refine r_get (pc := 7) cx cf_X10 0 26 rfl (by decide) rfl wd_1342 dX10_ahead_7 ?_
  refine r_iconst (pc := 10) cx dX10_ahead_10 ic_3 ?_
  refine r_iald (pc := 11) cx 15 rfl (by decide) dX10_ahead_11 ?_
  refine r_isub (pc := 12) cx dX10_ahead_12 ?_
  have hi := inj1 hf
  exact r_iret (pc := 13) cx hi rfl dX10_ahead_13
theorem yv_X10_ahead : YV yX10_ahead cX10_ahead 1 (some .int) 0 := ⟨⟨by decide +kernel, by decide +kernel, by decide +kernel⟩, wd_1591, wd_102, wd_1590, wd_57⟩
abbrev rm_M_isHaltedAt : Room := { frames := 0, cells := 0, slots := 0, locals := 0 }
set_option maxRecDepth 100000 in
set_option maxHeartbeats 4000000 in
theorem m_M_isHaltedAt (l : Launch) (D : va_G) (K : Nat → ClassId) (q : Nat → Nat) (v : T_M) (a1 : Int32) {r_ : Int32} (hf : f_M_isHaltedAt v a1 = some r_) : MI l yX10_isHaltedAt cX10_isHaltedAt 2 (some .boolean) rm_M_isHaltedAt D K [.ref (q 0), .int a1] (cl_M K q v) r_ (cl_M K q v) := by
  refine MI_of (loc0 := [(0, .ref (q 0)), (1, .int a1)]) (by decide +kernel) rfl (Nat.le_of_ble_eq_true rfl) ?_
  intro p e s m args below meth c A cx
  unfold f_M_isHaltedAt at hf
  refine r_ws (ws' := [((q 0), ob 9 [.int (M_thrown v), .ref (q 1), .int (M_taped (M_tp v)), .ref (q 2), .ref (q 3), .ref (q 4), .ref (q 5), .ref (q 6), .ref (q 7), .ref (q 8), .ref (q 9), .ref (q 10), .ref (q 11), .ref (q 12), .ref (q 13), .ref (q 14), .int (M_lines (M_rd v)), .int (M_size (M_rd v)), .int (M_at (M_rd v)), .int (M_place (M_rd v)), .int (M_sort (M_rd v)), .int (M_value (M_rd v)), .int (M_fault (M_rd v)), .int (M_faultPlace (M_rd v)), .int (M_lastFault (M_lf v)), .int (M_lastPlace (M_lf v)), .ref (q 15), .ref (q 16), .ref (q 17), .ref (q 18), .int (M_hasImage (M_im v)), .int (M_spanNow (M_rn v)), .ref (q 19), .int (M_placeThen (M_rn v)), .int (M_alonePlace (M_al v)), .int (M_aloneSteps (M_al v)), .int (M_aloneOut (M_al v)), .ref (q 20), .ref (q 21), .ref (q 22), .ref (q 23), .int (M_shotAlarm (M_ex v)), .int (M_drawn (M_ex v))]), ((q 1), aI K 700 (M_tape (M_tp v))), ((q 2), aI K 20 (M_number (M_cd v))), ((q 3), aZ K 5 (M_isTold (M_rd v))), ((q 4), aI K 80 (M_codeSort (M_cd v))), ((q 5), aI K 80 (M_codeA (M_cd v))), ((q 6), aI K 80 (M_codeB (M_cd v))), ((q 7), aI K 80 (M_codeC (M_cd v))), ((q 8), aI K 80 (M_codeName (M_cd v))), ((q 9), aI K 80 (M_codePlace (M_cd v))), ((q 10), aI K 80 (M_codeTo (M_cd v))), ((q 11), aI K 280 (M_labelName (M_cd v))), ((q 12), aI K 280 (M_labelAt (M_cd v))), ((q 13), aI K 64 (M_data (M_cd v))), ((q 14), aZ K 32 (M_hasData (M_rd v))), ((q 15), aI K 314 (M_s (M_rn v))), ((q 16), aI K 314 (M_aside (M_ex v))), ((q 17), aI K 314 (M_further (M_ex v))), ((q 18), aI K 314 (M_image (M_im v))), ((q 19), aI K 3 (M_sizeNow (M_rn v))), ((q 20), aI K 8 (M_aloneRegister (M_al v))), ((q 21), aI K 4 (M_aloneReal (M_al v))), ((q 22), aI K 32 (M_aloneMemory (M_al v))), ((q 23), aI K 999 (M_aloneOutput (M_al v)))]) rfl ?_
  refine r_iload_n (pc := 0) cx dX10_isHaltedAt_0 1 rfl ?_
  refine r_aload_n (pc := 1) cx dX10_isHaltedAt_1 0 rfl ?_
  refine r_get (pc := 2) cx cf_X10 0 3 rfl (by decide) rfl wd_1319 dX10_isHaltedAt_2 ?_
  refine r_bipush (pc := 5) cx dX10_isHaltedAt_5 bp_8 ?_
  refine r_iald (pc := 7) cx 2 rfl (by decide) dX10_isHaltedAt_7 ?_
  refine r_icmp_ge (pc := 8) (tgt := 22) cx dX10_isHaltedAt_8 (by decide) (fun h1 => ?_) (fun h1 => ?_)
  · replace hf := ifp h1 hf
    refine r_iconst (pc := 22) cx dX10_isHaltedAt_22 ic_1 ?_
    refine r_goto (pc := 23) (tgt := 27) cx dX10_isHaltedAt_23 (by decide) ?_
    have hi := inj1 hf
    exact r_zret (pc := 27) cx (Or.inr rfl) hi rfl dX10_isHaltedAt_27
  · replace hf := ifn h1 hf
    refine r_aload_n (pc := 11) cx dX10_isHaltedAt_11 0 rfl ?_
    refine r_get (pc := 12) cx cf_X10 0 5 rfl (by decide) rfl wd_1321 dX10_isHaltedAt_12 ?_
    refine r_iload_n (pc := 15) cx dX10_isHaltedAt_15 1 rfl ?_
    replace hf := chk_of hf
    obtain ⟨h2, hf⟩ := hf
    refine r_iald (pc := 16) cx 4 rfl h2 dX10_isHaltedAt_16 ?_
    refine r_bipush (pc := 17) cx dX10_isHaltedAt_17 bp_24 ?_
    refine r_icmp_ne (pc := 19) (tgt := 26) cx dX10_isHaltedAt_19 (by decide) (fun h3 => ?_) (fun h3 => ?_)
    · replace hf := ifn h3 hf
      refine r_iconst (pc := 26) cx dX10_isHaltedAt_26 ic_0 ?_
      have hi := inj1 hf
      exact r_zret (pc := 27) cx (Or.inl rfl) hi rfl dX10_isHaltedAt_27
    · replace hf := ifp h3 hf
      refine r_iconst (pc := 22) cx dX10_isHaltedAt_22 ic_1 ?_
      refine r_goto (pc := 23) (tgt := 27) cx dX10_isHaltedAt_23 (by decide) ?_
      have hi := inj1 hf
      exact r_zret (pc := 27) cx (Or.inr rfl) hi rfl dX10_isHaltedAt_27
theorem yv_X10_isHaltedAt : YV yX10_isHaltedAt cX10_isHaltedAt 2 (some .boolean) 1 := ⟨⟨by decide +kernel, by decide +kernel, by decide +kernel⟩, wd_1587, wd_102, wd_1586, wd_56⟩
abbrev rm_M_isHalted : Room := { frames := 1, cells := 0, slots := 0, locals := 21 }
set_option maxRecDepth 100000 in
set_option maxHeartbeats 4000000 in
theorem m_M_isHalted (l : Launch) (D : va_G) (K : Nat → ClassId) (q : Nat → Nat) (v : T_M) (a1 : Int32) {r_ : Int32} (hf : f_M_isHalted v a1 = some r_) : MI l yX10_isHalted cX10_isHalted 2 (some .boolean) rm_M_isHalted D K [.ref (q 0), .int a1] (cl_M K q v) r_ (cl_M K q v) := by
  refine MI_of (loc0 := [(0, .ref (q 0)), (1, .int a1)]) (by decide +kernel) rfl (Nat.le_of_ble_eq_true rfl) ?_
  intro p e s m args below meth c A cx
  unfold f_M_isHalted at hf
  refine r_ws (ws' := [((q 0), ob 9 [.int (M_thrown v), .ref (q 1), .int (M_taped (M_tp v)), .ref (q 2), .ref (q 3), .ref (q 4), .ref (q 5), .ref (q 6), .ref (q 7), .ref (q 8), .ref (q 9), .ref (q 10), .ref (q 11), .ref (q 12), .ref (q 13), .ref (q 14), .int (M_lines (M_rd v)), .int (M_size (M_rd v)), .int (M_at (M_rd v)), .int (M_place (M_rd v)), .int (M_sort (M_rd v)), .int (M_value (M_rd v)), .int (M_fault (M_rd v)), .int (M_faultPlace (M_rd v)), .int (M_lastFault (M_lf v)), .int (M_lastPlace (M_lf v)), .ref (q 15), .ref (q 16), .ref (q 17), .ref (q 18), .int (M_hasImage (M_im v)), .int (M_spanNow (M_rn v)), .ref (q 19), .int (M_placeThen (M_rn v)), .int (M_alonePlace (M_al v)), .int (M_aloneSteps (M_al v)), .int (M_aloneOut (M_al v)), .ref (q 20), .ref (q 21), .ref (q 22), .ref (q 23), .int (M_shotAlarm (M_ex v)), .int (M_drawn (M_ex v))]), ((q 1), aI K 700 (M_tape (M_tp v))), ((q 2), aI K 20 (M_number (M_cd v))), ((q 3), aZ K 5 (M_isTold (M_rd v))), ((q 4), aI K 80 (M_codeSort (M_cd v))), ((q 5), aI K 80 (M_codeA (M_cd v))), ((q 6), aI K 80 (M_codeB (M_cd v))), ((q 7), aI K 80 (M_codeC (M_cd v))), ((q 8), aI K 80 (M_codeName (M_cd v))), ((q 9), aI K 80 (M_codePlace (M_cd v))), ((q 10), aI K 80 (M_codeTo (M_cd v))), ((q 11), aI K 280 (M_labelName (M_cd v))), ((q 12), aI K 280 (M_labelAt (M_cd v))), ((q 13), aI K 64 (M_data (M_cd v))), ((q 14), aZ K 32 (M_hasData (M_rd v))), ((q 15), aI K 314 (M_s (M_rn v))), ((q 16), aI K 314 (M_aside (M_ex v))), ((q 17), aI K 314 (M_further (M_ex v))), ((q 18), aI K 314 (M_image (M_im v))), ((q 19), aI K 3 (M_sizeNow (M_rn v))), ((q 20), aI K 8 (M_aloneRegister (M_al v))), ((q 21), aI K 4 (M_aloneReal (M_al v))), ((q 22), aI K 32 (M_aloneMemory (M_al v))), ((q 23), aI K 999 (M_aloneOutput (M_al v)))]) rfl ?_
  refine r_aload_n (pc := 0) cx dX10_isHalted_0 0 rfl ?_
  refine r_aload_n (pc := 1) cx dX10_isHalted_1 0 rfl ?_
  refine r_get (pc := 2) cx cf_X10 0 26 rfl (by decide) rfl wd_1342 dX10_isHalted_2 ?_
  refine r_iconst (pc := 5) cx dX10_isHalted_5 ic_0 ?_
  refine r_iload_n (pc := 6) cx dX10_isHalted_6 1 rfl ?_
  refine r_iadd (pc := 7) cx dX10_isHalted_7 ?_
  replace hf := chk_of hf
  obtain ⟨h1, hf⟩ := hf
  refine r_iald (pc := 8) cx 15 rfl h1 dX10_isHalted_8 ?_
  replace hf := bd_of hf
  obtain ⟨r2, hc3, hf⟩ := hf
  refine r_Vi (pc := 9) (ws' := [((q 0), ob 9 [.int (M_thrown v), .ref (q 1), .int (M_taped (M_tp v)), .ref (q 2), .ref (q 3), .ref (q 4), .ref (q 5), .ref (q 6), .ref (q 7), .ref (q 8), .ref (q 9), .ref (q 10), .ref (q 11), .ref (q 12), .ref (q 13), .ref (q 14), .int (M_lines (M_rd v)), .int (M_size (M_rd v)), .int (M_at (M_rd v)), .int (M_place (M_rd v)), .int (M_sort (M_rd v)), .int (M_value (M_rd v)), .int (M_fault (M_rd v)), .int (M_faultPlace (M_rd v)), .int (M_lastFault (M_lf v)), .int (M_lastPlace (M_lf v)), .ref (q 15), .ref (q 16), .ref (q 17), .ref (q 18), .int (M_hasImage (M_im v)), .int (M_spanNow (M_rn v)), .ref (q 19), .int (M_placeThen (M_rn v)), .int (M_alonePlace (M_al v)), .int (M_aloneSteps (M_al v)), .int (M_aloneOut (M_al v)), .ref (q 20), .ref (q 21), .ref (q 22), .ref (q 23), .int (M_shotAlarm (M_ex v)), .int (M_drawn (M_ex v))]), ((q 1), aI K 700 (M_tape (M_tp v))), ((q 2), aI K 20 (M_number (M_cd v))), ((q 3), aZ K 5 (M_isTold (M_rd v))), ((q 4), aI K 80 (M_codeSort (M_cd v))), ((q 5), aI K 80 (M_codeA (M_cd v))), ((q 6), aI K 80 (M_codeB (M_cd v))), ((q 7), aI K 80 (M_codeC (M_cd v))), ((q 8), aI K 80 (M_codeName (M_cd v))), ((q 9), aI K 80 (M_codePlace (M_cd v))), ((q 10), aI K 80 (M_codeTo (M_cd v))), ((q 11), aI K 280 (M_labelName (M_cd v))), ((q 12), aI K 280 (M_labelAt (M_cd v))), ((q 13), aI K 64 (M_data (M_cd v))), ((q 14), aZ K 32 (M_hasData (M_rd v))), ((q 15), aI K 314 (M_s (M_rn v))), ((q 16), aI K 314 (M_aside (M_ex v))), ((q 17), aI K 314 (M_further (M_ex v))), ((q 18), aI K 314 (M_image (M_im v))), ((q 19), aI K 3 (M_sizeNow (M_rn v))), ((q 20), aI K 8 (M_aloneRegister (M_al v))), ((q 21), aI K 4 (M_aloneReal (M_al v))), ((q 22), aI K 32 (M_aloneMemory (M_al v))), ((q 23), aI K 999 (M_aloneOutput (M_al v)))]) (wc := [((q 0), ob 9 [.int (M_thrown v), .ref (q 1), .int (M_taped (M_tp v)), .ref (q 2), .ref (q 3), .ref (q 4), .ref (q 5), .ref (q 6), .ref (q 7), .ref (q 8), .ref (q 9), .ref (q 10), .ref (q 11), .ref (q 12), .ref (q 13), .ref (q 14), .int (M_lines (M_rd v)), .int (M_size (M_rd v)), .int (M_at (M_rd v)), .int (M_place (M_rd v)), .int (M_sort (M_rd v)), .int (M_value (M_rd v)), .int (M_fault (M_rd v)), .int (M_faultPlace (M_rd v)), .int (M_lastFault (M_lf v)), .int (M_lastPlace (M_lf v)), .ref (q 15), .ref (q 16), .ref (q 17), .ref (q 18), .int (M_hasImage (M_im v)), .int (M_spanNow (M_rn v)), .ref (q 19), .int (M_placeThen (M_rn v)), .int (M_alonePlace (M_al v)), .int (M_aloneSteps (M_al v)), .int (M_aloneOut (M_al v)), .ref (q 20), .ref (q 21), .ref (q 22), .ref (q 23), .int (M_shotAlarm (M_ex v)), .int (M_drawn (M_ex v))]), ((q 1), aI K 700 (M_tape (M_tp v))), ((q 2), aI K 20 (M_number (M_cd v))), ((q 3), aZ K 5 (M_isTold (M_rd v))), ((q 4), aI K 80 (M_codeSort (M_cd v))), ((q 5), aI K 80 (M_codeA (M_cd v))), ((q 6), aI K 80 (M_codeB (M_cd v))), ((q 7), aI K 80 (M_codeC (M_cd v))), ((q 8), aI K 80 (M_codeName (M_cd v))), ((q 9), aI K 80 (M_codePlace (M_cd v))), ((q 10), aI K 80 (M_codeTo (M_cd v))), ((q 11), aI K 280 (M_labelName (M_cd v))), ((q 12), aI K 280 (M_labelAt (M_cd v))), ((q 13), aI K 64 (M_data (M_cd v))), ((q 14), aZ K 32 (M_hasData (M_rd v))), ((q 15), aI K 314 (M_s (M_rn v))), ((q 16), aI K 314 (M_aside (M_ex v))), ((q 17), aI K 314 (M_further (M_ex v))), ((q 18), aI K 314 (M_image (M_im v))), ((q 19), aI K 3 (M_sizeNow (M_rn v))), ((q 20), aI K 8 (M_aloneRegister (M_al v))), ((q 21), aI K 4 (M_aloneReal (M_al v))), ((q 22), aI K 32 (M_aloneMemory (M_al v))), ((q 23), aI K 999 (M_aloneOutput (M_al v)))]) (nn := 24) cx [.int ((M_s (M_rn v)) (((0 : Int32) + a1)).toNatClampNeg)] [] (m_M_isHaltedAt l D K q v ((M_s (M_rn v)) (((0 : Int32) + a1)).toNatClampNeg) hc3) rfl yv_X10_isHaltedAt wd_1584 ⟨rfl, rfl⟩ (by decide) (fr_s (j := 0) rfl rfl rfl (fr_s (j := 1) rfl rfl rfl (fr_s (j := 2) rfl rfl rfl (fr_s (j := 3) rfl rfl rfl (fr_s (j := 4) rfl rfl rfl (fr_s (j := 5) rfl rfl rfl (fr_s (j := 6) rfl rfl rfl (fr_s (j := 7) rfl rfl rfl (fr_s (j := 8) rfl rfl rfl (fr_s (j := 9) rfl rfl rfl (fr_s (j := 10) rfl rfl rfl (fr_s (j := 11) rfl rfl rfl (fr_s (j := 12) rfl rfl rfl (fr_s (j := 13) rfl rfl rfl (fr_s (j := 14) rfl rfl rfl (fr_s (j := 15) rfl rfl rfl (fr_s (j := 16) rfl rfl rfl (fr_s (j := 17) rfl rfl rfl (fr_s (j := 18) rfl rfl rfl (fr_s (j := 19) rfl rfl rfl (fr_s (j := 20) rfl rfl rfl (fr_s (j := 21) rfl rfl rfl (fr_s (j := 22) rfl rfl rfl (fr_s (j := 23) rfl rfl rfl (fr_n))))))))))))))))))))))))) rfl (by decide) 0 rfl rfl rfl (Nat.le_of_ble_eq_true rfl) dX10_isHalted_9 ?_
  replace hf := chk_of hf
  obtain ⟨h4, hf⟩ := hf
  have hi := inj1 hf
  exact r_zret (pc := 12) cx h4 hi rfl dX10_isHalted_12
theorem yv_X10_isHalted : YV yX10_isHalted cX10_isHalted 2 (some .boolean) 1 := ⟨⟨by decide +kernel, by decide +kernel, by decide +kernel⟩, wd_1583, wd_102, wd_1582, wd_55⟩
