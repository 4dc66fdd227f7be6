abbrev rm_M_go : Room := { frames := 6, cells := 0, slots := 0, locals := 147 }
set_option maxRecDepth 100000 in
set_option maxHeartbeats 4000000 in
theorem m_M_go (l : Launch) (D : va_G) (K : Nat → ClassId) (q : Nat → Nat) (v : T_M) (a1 : Int32) {r_ : Int32} {o_v : T_M} (hf : f_M_go v a1 = some (r_, o_v)) : MI l yX10_go cX10_go 3 (some .int) rm_M_go D K [.ref (q 0), .int a1] (cl_M K q v) r_ (cl_M K q o_v) := by
  refine MI_of (loc0 := [(0, .ref (q 0)), (1, .int a1)]) (by decide +kernel) rfl (Nat.le_of_ble_eq_true rfl) ?_
  intro p e s m args below meth c A cx
  unfold f_M_go at hf
  refine r_ws (ws' := [((q 0), ob 9 [.int (M_thrown v), .ref (q 1), .int (M_taped (M_tp v)), .ref (q 2), .ref (q 3), .ref (q 4), .ref (q 5), .ref (q 6), .ref (q 7), .ref (q 8), .ref (q 9), .ref (q 10), .ref (q 11), .ref (q 12), .ref (q 13), .ref (q 14), .int (M_lines (M_rd v)), .int (M_size (M_rd v)), .int (M_at (M_rd v)), .int (M_place (M_rd v)), .int (M_sort (M_rd v)), .int (M_value (M_rd v)), .int (M_fault (M_rd v)), .int (M_faultPlace (M_rd v)), .int (M_lastFault (M_lf v)), .int (M_lastPlace (M_lf v)), .ref (q 15), .ref (q 16), .ref (q 17), .ref (q 18), .int (M_hasImage (M_im v)), .int (M_spanNow (M_rn v)), .ref (q 19), .int (M_placeThen (M_rn v)), .int (M_alonePlace (M_al v)), .int (M_aloneSteps (M_al v)), .int (M_aloneOut (M_al v)), .ref (q 20), .ref (q 21), .ref (q 22), .ref (q 23), .int (M_shotAlarm (M_ex v)), .int (M_drawn (M_ex v))]), ((q 1), aI K 700 (M_tape (M_tp v))), ((q 2), aI K 20 (M_number (M_cd v))), ((q 3), aZ K 5 (M_isTold (M_rd v))), ((q 4), aI K 80 (M_codeSort (M_cd v))), ((q 5), aI K 80 (M_codeA (M_cd v))), ((q 6), aI K 80 (M_codeB (M_cd v))), ((q 7), aI K 80 (M_codeC (M_cd v))), ((q 8), aI K 80 (M_codeName (M_cd v))), ((q 9), aI K 80 (M_codePlace (M_cd v))), ((q 10), aI K 80 (M_codeTo (M_cd v))), ((q 11), aI K 280 (M_labelName (M_cd v))), ((q 12), aI K 280 (M_labelAt (M_cd v))), ((q 13), aI K 64 (M_data (M_cd v))), ((q 14), aZ K 32 (M_hasData (M_rd v))), ((q 15), aI K 314 (M_s (M_rn v))), ((q 16), aI K 314 (M_aside (M_ex v))), ((q 17), aI K 314 (M_further (M_ex v))), ((q 18), aI K 314 (M_image (M_im v))), ((q 19), aI K 3 (M_sizeNow (M_rn v))), ((q 20), aI K 8 (M_aloneRegister (M_al v))), ((q 21), aI K 4 (M_aloneReal (M_al v))), ((q 22), aI K 32 (M_aloneMemory (M_al v))), ((q 23), aI K 999 (M_aloneOutput (M_al v)))]) rfl ?_
  refine r_aload_n (pc := 0) cx dX10_go_0 0 rfl ?_
  refine r_iconst (pc := 1) cx dX10_go_1 ic_0 ?_
  refine r_putI (pc := 2) (ws' := [((q 0), ob 9 [.int (0 : Int32), .ref (q 1), .int (M_taped (M_tp v)), .ref (q 2), .ref (q 3), .ref (q 4), .ref (q 5), .ref (q 6), .ref (q 7), .ref (q 8), .ref (q 9), .ref (q 10), .ref (q 11), .ref (q 12), .ref (q 13), .ref (q 14), .int (M_lines (M_rd v)), .int (M_size (M_rd v)), .int (M_at (M_rd v)), .int (M_place (M_rd v)), .int (M_sort (M_rd v)), .int (M_value (M_rd v)), .int (M_fault (M_rd v)), .int (M_faultPlace (M_rd v)), .int (M_lastFault (M_lf v)), .int (M_lastPlace (M_lf v)), .ref (q 15), .ref (q 16), .ref (q 17), .ref (q 18), .int (M_hasImage (M_im v)), .int (M_spanNow (M_rn v)), .ref (q 19), .int (M_placeThen (M_rn v)), .int (M_alonePlace (M_al v)), .int (M_aloneSteps (M_al v)), .int (M_aloneOut (M_al v)), .ref (q 20), .ref (q 21), .ref (q 22), .ref (q 23), .int (M_shotAlarm (M_ex v)), .int (M_drawn (M_ex v))]), ((q 1), aI K 700 (M_tape (M_tp v))), ((q 2), aI K 20 (M_number (M_cd v))), ((q 3), aZ K 5 (M_isTold (M_rd v))), ((q 4), aI K 80 (M_codeSort (M_cd v))), ((q 5), aI K 80 (M_codeA (M_cd v))), ((q 6), aI K 80 (M_codeB (M_cd v))), ((q 7), aI K 80 (M_codeC (M_cd v))), ((q 8), aI K 80 (M_codeName (M_cd v))), ((q 9), aI K 80 (M_codePlace (M_cd v))), ((q 10), aI K 80 (M_codeTo (M_cd v))), ((q 11), aI K 280 (M_labelName (M_cd v))), ((q 12), aI K 280 (M_labelAt (M_cd v))), ((q 13), aI K 64 (M_data (M_cd v))), ((q 14), aZ K 32 (M_hasData (M_rd v))), ((q 15), aI K 314 (M_s (M_rn v))), ((q 16), aI K 314 (M_aside (M_ex v))), ((q 17), aI K 314 (M_further (M_ex v))), ((q 18), aI K 314 (M_image (M_im v))), ((q 19), aI K 3 (M_sizeNow (M_rn v))), ((q 20), aI K 8 (M_aloneRegister (M_al v))), ((q 21), aI K 4 (M_aloneReal (M_al v))), ((q 22), aI K 32 (M_aloneMemory (M_al v))), ((q 23), aI K 999 (M_aloneOutput (M_al v)))]) cx cf_X10 0 0 rfl (by decide) (Nat.le_of_ble_eq_true rfl) rfl pfd_I wd_1316 dX10_go_2 rfl ?_
  refine r_iload_n (pc := 5) cx dX10_go_5 1 rfl ?_
  refine r_if_lt (pc := 6) (tgt := 16) cx dX10_go_6 (by decide) (fun h1 => ?_) (fun h1 => ?_)
  · replace hf := ifp h1 hf
    refine r_iconst (pc := 16) cx dX10_go_16 ic_m1 ?_
    have hi := inj2 hf
    exact r_iret (pc := 17) cx hi.1 (by rw [← hi.2]; (try simp only [cl_M, M_tape_mk, M_taped_mk, M_tp_mk, M_lines_mk, M_size_mk, M_at_mk, M_place_mk, M_sort_mk, M_value_mk, M_fault_mk, M_faultPlace_mk, M_isTold_mk, M_hasData_mk, M_rd_mk, M_lastFault_mk, M_lastPlace_mk, M_lf_mk, M_number_mk, M_codeSort_mk, M_codeA_mk, M_codeB_mk, M_codeC_mk, M_codeName_mk, M_codePlace_mk, M_codeTo_mk, M_labelName_mk, M_labelAt_mk, M_data_mk, M_cd_mk, M_s_mk, M_spanNow_mk, M_sizeNow_mk, M_placeThen_mk, M_rn_mk, M_aside_mk, M_further_mk, M_shotAlarm_mk, M_drawn_mk, M_ex_mk, M_image_mk, M_hasImage_mk, M_im_mk, M_alonePlace_mk, M_aloneSteps_mk, M_aloneOut_mk, M_aloneRegister_mk, M_aloneReal_mk, M_aloneMemory_mk, M_aloneOutput_mk, M_al_mk, M_thrown_mk, List.cons_append, List.nil_append, List.append_nil]) <;> rfl) dX10_go_17
  · replace hf := ifn h1 hf
    refine r_iload_n (pc := 9) cx dX10_go_9 1 rfl ?_
    refine r_sipush (pc := 10) cx dX10_go_10 sp_300 ?_
    refine r_icmp_le (pc := 13) (tgt := 18) cx dX10_go_13 (by decide) (fun h2 => ?_) (fun h2 => ?_)
    · replace hf := ifp h2 hf
      refine r_iconst (pc := 18) cx dX10_go_18 ic_0 ?_
      refine r_istore_n (pc := 19) (loc' := [(2, .int (0 : Int32)), (0, .ref (q 0)), (1, .int a1)]) cx dX10_go_19 rfl (by decide) rfl ?_
      have hL20 : ∀ (k20_39 : Int32 → T_M → Option (Int32 × T_M)), (∀ (x5 : Int32) (v6 : T_M), k20_39 x5 v6 = some (r_, o_v) → WW p l e rm_M_go s m args below meth c D A 3 0 0 (MQ below (QI D K A r_ (cl_M K q o_v)) args s 0 0 A) ([((q 0), ob 9 [.int (M_thrown v6), .ref (q 1), .int (M_taped (M_tp v6)), .ref (q 2), .ref (q 3), .ref (q 4), .ref (q 5), .ref (q 6), .ref (q 7), .ref (q 8), .ref (q 9), .ref (q 10), .ref (q 11), .ref (q 12), .ref (q 13), .ref (q 14), .int (M_lines (M_rd v6)), .int (M_size (M_rd v6)), .int (M_at (M_rd v6)), .int (M_place (M_rd v6)), .int (M_sort (M_rd v6)), .int (M_value (M_rd v6)), .int (M_fault (M_rd v6)), .int (M_faultPlace (M_rd v6)), .int (M_lastFault (M_lf v6)), .int (M_lastPlace (M_lf v6)), .ref (q 15), .ref (q 16), .ref (q 17), .ref (q 18), .int (M_hasImage (M_im v6)), .int (M_spanNow (M_rn v6)), .ref (q 19), .int (M_placeThen (M_rn v6)), .int (M_alonePlace (M_al v6)), .int (M_aloneSteps (M_al v6)), .int (M_aloneOut (M_al v6)), .ref (q 20), .ref (q 21), .ref (q 22), .ref (q 23), .int (M_shotAlarm (M_ex v6)), .int (M_drawn (M_ex v6))]), ((q 1), aI K 700 (M_tape (M_tp v6))), ((q 2), aI K 20 (M_number (M_cd v6))), ((q 3), aZ K 5 (M_isTold (M_rd v6))), ((q 4), aI K 80 (M_codeSort (M_cd v6))), ((q 5), aI K 80 (M_codeA (M_cd v6))), ((q 6), aI K 80 (M_codeB (M_cd v6))), ((q 7), aI K 80 (M_codeC (M_cd v6))), ((q 8), aI K 80 (M_codeName (M_cd v6))), ((q 9), aI K 80 (M_codePlace (M_cd v6))), ((q 10), aI K 80 (M_codeTo (M_cd v6))), ((q 11), aI K 280 (M_labelName (M_cd v6))), ((q 12), aI K 280 (M_labelAt (M_cd v6))), ((q 13), aI K 64 (M_data (M_cd v6))), ((q 14), aZ K 32 (M_hasData (M_rd v6))), ((q 15), aI K 314 (M_s (M_rn v6))), ((q 16), aI K 314 (M_aside (M_ex v6))), ((q 17), aI K 314 (M_further (M_ex v6))), ((q 18), aI K 314 (M_image (M_im v6))), ((q 19), aI K 3 (M_sizeNow (M_rn v6))), ((q 20), aI K 8 (M_aloneRegister (M_al v6))), ((q 21), aI K 4 (M_aloneReal (M_al v6))), ((q 22), aI K 32 (M_aloneMemory (M_al v6))), ((q 23), aI K 999 (M_aloneOutput (M_al v6)))]) ([(2, .int x5)]) ([]) 39) → ∀ (n20 : Nat) (x3 : Int32) (v4 : T_M), f_M_go_L20 a1 k20_39 n20 x3 v4 = some (r_, o_v) → WW p l e rm_M_go s m args below meth c D A 3 0 0 (MQ below (QI D K A r_ (cl_M K q o_v)) args s 0 0 A) ([((q 0), ob 9 [.int (M_thrown v4), .ref (q 1), .int (M_taped (M_tp v4)), .ref (q 2), .ref (q 3), .ref (q 4), .ref (q 5), .ref (q 6), .ref (q 7), .ref (q 8), .ref (q 9), .ref (q 10), .ref (q 11), .ref (q 12), .ref (q 13), .ref (q 14), .int (M_lines (M_rd v4)), .int (M_size (M_rd v4)), .int (M_at (M_rd v4)), .int (M_place (M_rd v4)), .int (M_sort (M_rd v4)), .int (M_value (M_rd v4)), .int (M_fault (M_rd v4)), .int (M_faultPlace (M_rd v4)), .int (M_lastFault (M_lf v4)), .int (M_lastPlace (M_lf v4)), .ref (q 15), .ref (q 16), .ref (q 17), .ref (q 18), .int (M_hasImage (M_im v4)), .int (M_spanNow (M_rn v4)), .ref (q 19), .int (M_placeThen (M_rn v4)), .int (M_alonePlace (M_al v4)), .int (M_aloneSteps (M_al v4)), .int (M_aloneOut (M_al v4)), .ref (q 20), .ref (q 21), .ref (q 22), .ref (q 23), .int (M_shotAlarm (M_ex v4)), .int (M_drawn (M_ex v4))]), ((q 1), aI K 700 (M_tape (M_tp v4))), ((q 2), aI K 20 (M_number (M_cd v4))), ((q 3), aZ K 5 (M_isTold (M_rd v4))), ((q 4), aI K 80 (M_codeSort (M_cd v4))), ((q 5), aI K 80 (M_codeA (M_cd v4))), ((q 6), aI K 80 (M_codeB (M_cd v4))), ((q 7), aI K 80 (M_codeC (M_cd v4))), ((q 8), aI K 80 (M_codeName (M_cd v4))), ((q 9), aI K 80 (M_codePlace (M_cd v4))), ((q 10), aI K 80 (M_codeTo (M_cd v4))), ((q 11), aI K 280 (M_labelName (M_cd v4))), ((q 12), aI K 280 (M_labelAt (M_cd v4))), ((q 13), aI K 64 (M_data (M_cd v4))), ((q 14), aZ K 32 (M_hasData (M_rd v4))), ((q 15), aI K 314 (M_s (M_rn v4))), ((q 16), aI K 314 (M_aside (M_ex v4))), ((q 17), aI K 314 (M_further (M_ex v4))), ((q 18), aI K 314 (M_image (M_im v4))), ((q 19), aI K 3 (M_sizeNow (M_rn v4))), ((q 20), aI K 8 (M_aloneRegister (M_al v4))), ((q 21), aI K 4 (M_aloneReal (M_al v4))), ((q 22), aI K 32 (M_aloneMemory (M_al v4))), ((q 23), aI K 999 (M_aloneOutput (M_al v4)))]) ([(0, .ref (q 0)), (1, .int a1), (2, .int x3)]) ([]) 20 := by
        clear hf
        intro k20_39 hk20_39 n20
        induction n20 with
        | zero => intro x3 v4 hf; exact (nomatch (show (none : Option (Int32 × T_M)) = some _ from hf))
        | succ n20 ih20 =>
          intro x3 v4 hf
          rw [f_M_go_L20] at hf
          refine r_iload_n (pc := 20) cx dX10_go_20 2 rfl ?_
          refine r_iload_n (pc := 21) cx dX10_go_21 1 rfl ?_
          refine r_icmp_ge (pc := 22) (tgt := 39) cx dX10_go_22 (by decide) (fun h7 => ?_) (fun h7 => ?_)
          · replace hf := ifp h7 hf
            refine r_loc (loc' := [(2, .int x3)]) [2] rfl ?_
            exact hk20_39 _ _ hf
          · replace hf := ifn h7 hf
            refine r_aload_n (pc := 25) cx dX10_go_25 0 rfl ?_
            refine r_iconst (pc := 26) cx dX10_go_26 ic_0 ?_
            replace hf := bd2_of hf
            obtain ⟨r8, v9, hc10, hf⟩ := hf
            refine r_Vi (pc := 27) (ws' := [((q 0), ob 9 [.int (M_thrown v9), .ref (q 1), .int (M_taped (M_tp v9)), .ref (q 2), .ref (q 3), .ref (q 4), .ref (q 5), .ref (q 6), .ref (q 7), .ref (q 8), .ref (q 9), .ref (q 10), .ref (q 11), .ref (q 12), .ref (q 13), .ref (q 14), .int (M_lines (M_rd v9)), .int (M_size (M_rd v9)), .int (M_at (M_rd v9)), .int (M_place (M_rd v9)), .int (M_sort (M_rd v9)), .int (M_value (M_rd v9)), .int (M_fault (M_rd v9)), .int (M_faultPlace (M_rd v9)), .int (M_lastFault (M_lf v9)), .int (M_lastPlace (M_lf v9)), .ref (q 15), .ref (q 16), .ref (q 17), .ref (q 18), .int (M_hasImage (M_im v9)), .int (M_spanNow (M_rn v9)), .ref (q 19), .int (M_placeThen (M_rn v9)), .int (M_alonePlace (M_al v9)), .int (M_aloneSteps (M_al v9)), .int (M_aloneOut (M_al v9)), .ref (q 20), .ref (q 21), .ref (q 22), .ref (q 23), .int (M_shotAlarm (M_ex v9)), .int (M_drawn (M_ex v9))]), ((q 1), aI K 700 (M_tape (M_tp v9))), ((q 2), aI K 20 (M_number (M_cd v9))), ((q 3), aZ K 5 (M_isTold (M_rd v9))), ((q 4), aI K 80 (M_codeSort (M_cd v9))), ((q 5), aI K 80 (M_codeA (M_cd v9))), ((q 6), aI K 80 (M_codeB (M_cd v9))), ((q 7), aI K 80 (M_codeC (M_cd v9))), ((q 8), aI K 80 (M_codeName (M_cd v9))), ((q 9), aI K 80 (M_codePlace (M_cd v9))), ((q 10), aI K 80 (M_codeTo (M_cd v9))), ((q 11), aI K 280 (M_labelName (M_cd v9))), ((q 12), aI K 280 (M_labelAt (M_cd v9))), ((q 13), aI K 64 (M_data (M_cd v9))), ((q 14), aZ K 32 (M_hasData (M_rd v9))), ((q 15), aI K 314 (M_s (M_rn v9))), ((q 16), aI K 314 (M_aside (M_ex v9))), ((q 17), aI K 314 (M_further (M_ex v9))), ((q 18), aI K 314 (M_image (M_im v9))), ((q 19), aI K 3 (M_sizeNow (M_rn v9))), ((q 20), aI K 8 (M_aloneRegister (M_al v9))), ((q 21), aI K 4 (M_aloneReal (M_al v9))), ((q 22), aI K 32 (M_aloneMemory (M_al v9))), ((q 23), aI K 999 (M_aloneOutput (M_al v9)))]) (wc := [((q 0), ob 9 [.int (M_thrown v4), .ref (q 1), .int (M_taped (M_tp v4)), .ref (q 2), .ref (q 3), .ref (q 4), .ref (q 5), .ref (q 6), .ref (q 7), .ref (q 8), .ref (q 9), .ref (q 10), .ref (q 11), .ref (q 12), .ref (q 13), .ref (q 14), .int (M_lines (M_rd v4)), .int (M_size (M_rd v4)), .int (M_at (M_rd v4)), .int (M_place (M_rd v4)), .int (M_sort (M_rd v4)), .int (M_value (M_rd v4)), .int (M_fault (M_rd v4)), .int (M_faultPlace (M_rd v4)), .int (M_lastFault (M_lf v4)), .int (M_lastPlace (M_lf v4)), .ref (q 15), .ref (q 16), .ref (q 17), .ref (q 18), .int (M_hasImage (M_im v4)), .int (M_spanNow (M_rn v4)), .ref (q 19), .int (M_placeThen (M_rn v4)), .int (M_alonePlace (M_al v4)), .int (M_aloneSteps (M_al v4)), .int (M_aloneOut (M_al v4)), .ref (q 20), .ref (q 21), .ref (q 22), .ref (q 23), .int (M_shotAlarm (M_ex v4)), .int (M_drawn (M_ex v4))]), ((q 1), aI K 700 (M_tape (M_tp v4))), ((q 2), aI K 20 (M_number (M_cd v4))), ((q 3), aZ K 5 (M_isTold (M_rd v4))), ((q 4), aI K 80 (M_codeSort (M_cd v4))), ((q 5), aI K 80 (M_codeA (M_cd v4))), ((q 6), aI K 80 (M_codeB (M_cd v4))), ((q 7), aI K 80 (M_codeC (M_cd v4))), ((q 8), aI K 80 (M_codeName (M_cd v4))), ((q 9), aI K 80 (M_codePlace (M_cd v4))), ((q 10), aI K 80 (M_codeTo (M_cd v4))), ((q 11), aI K 280 (M_labelName (M_cd v4))), ((q 12), aI K 280 (M_labelAt (M_cd v4))), ((q 13), aI K 64 (M_data (M_cd v4))), ((q 14), aZ K 32 (M_hasData (M_rd v4))), ((q 15), aI K 314 (M_s (M_rn v4))), ((q 16), aI K 314 (M_aside (M_ex v4))), ((q 17), aI K 314 (M_further (M_ex v4))), ((q 18), aI K 314 (M_image (M_im v4))), ((q 19), aI K 3 (M_sizeNow (M_rn v4))), ((q 20), aI K 8 (M_aloneRegister (M_al v4))), ((q 21), aI K 4 (M_aloneReal (M_al v4))), ((q 22), aI K 32 (M_aloneMemory (M_al v4))), ((q 23), aI K 999 (M_aloneOutput (M_al v4)))]) (nn := 24) cx [.int (0 : Int32)] [] (m_M_turns l D K q v4 (0 : Int32) hc10) rfl yv_X10_turns wd_1568 ⟨rfl, rfl⟩ (by decide) (fr_s (j := 0) rfl rfl rfl (fr_s (j := 1) rfl rfl rfl (fr_s (j := 2) rfl rfl rfl (fr_s (j := 3) rfl rfl rfl (fr_s (j := 4) rfl rfl rfl (fr_s (j := 5) rfl rfl rfl (fr_s (j := 6) rfl rfl rfl (fr_s (j := 7) rfl rfl rfl (fr_s (j := 8) rfl rfl rfl (fr_s (j := 9) rfl rfl rfl (fr_s (j := 10) rfl rfl rfl (fr_s (j := 11) rfl rfl rfl (fr_s (j := 12) rfl rfl rfl (fr_s (j := 13) rfl rfl rfl (fr_s (j := 14) rfl rfl rfl (fr_s (j := 15) rfl rfl rfl (fr_s (j := 16) rfl rfl rfl (fr_s (j := 17) rfl rfl rfl (fr_s (j := 18) rfl rfl rfl (fr_s (j := 19) rfl rfl rfl (fr_s (j := 20) rfl rfl rfl (fr_s (j := 21) rfl rfl rfl (fr_s (j := 22) rfl rfl rfl (fr_s (j := 23) rfl rfl rfl (fr_n))))))))))))))))))))))))) rfl (by decide) 0 rfl rfl rfl (Nat.le_of_ble_eq_true rfl) dX10_go_27 ?_
            refine r_if_eq (pc := 30) (tgt := 39) cx dX10_go_30 (by decide) (fun h11 => ?_) (fun h11 => ?_)
            · replace hf := ifp h11 hf
              refine r_loc (loc' := [(2, .int x3)]) [2] rfl ?_
              exact hk20_39 _ _ hf
            · replace hf := ifn h11 hf
              replace hf := nm_of hf
              obtain ⟨x12, ex12, hf⟩ := hf
              refine r_iinc (pc := 33) (loc' := [(2, .int x12), (0, .ref (q 0)), (1, .int a1)]) (v := x12) cx dX10_go_33 2 rfl ((congrArg (fun z => x3 + z) ic_1).trans ex12.symm) (by decide) rfl ?_
              refine r_goto (pc := 36) (tgt := 20) cx dX10_go_36 (by decide) ?_
              refine r_loc (loc' := [(0, .ref (q 0)), (1, .int a1), (2, .int x12)]) [1, 2, 0] rfl ?_
              exact ih20 _ _ hf
      refine r_loc (loc' := [(0, .ref (q 0)), (1, .int a1), (2, .int (0 : Int32))]) [1, 2, 0] rfl ?_
      refine hL20 _ (fun x5 v6 hf => ?_) _ _ _ hf
      refine r_iload_n (pc := 39) cx dX10_go_39 0 rfl ?_
      have hi := inj2 hf
      exact r_iret (pc := 40) cx hi.1 (by rw [← hi.2]; rfl) dX10_go_40
    · replace hf := ifn h2 hf
      refine r_iconst (pc := 16) cx dX10_go_16 ic_m1 ?_
      have hi := inj2 hf
      exact r_iret (pc := 17) cx hi.1 (by rw [← hi.2]; (try simp only [cl_M, M_tape_mk, M_taped_mk, M_tp_mk, M_lines_mk, M_size_mk, M_at_mk, M_place_mk, M_sort_mk, M_value_mk, M_fault_mk, M_faultPlace_mk, M_isTold_mk, M_hasData_mk, M_rd_mk, M_lastFault_mk, M_lastPlace_mk, M_lf_mk, M_number_mk, M_codeSort_mk, M_codeA_mk, M_codeB_mk, M_codeC_mk, M_codeName_mk, M_codePlace_mk, M_codeTo_mk, M_labelName_mk, M_labelAt_mk, M_data_mk, M_cd_mk, M_s_mk, M_spanNow_mk, M_sizeNow_mk, M_placeThen_mk, M_rn_mk, M_aside_mk, M_further_mk, M_shotAlarm_mk, M_drawn_mk, M_ex_mk, M_image_mk, M_hasImage_mk, M_im_mk, M_alonePlace_mk, M_aloneSteps_mk, M_aloneOut_mk, M_aloneRegister_mk, M_aloneReal_mk, M_aloneMemory_mk, M_aloneOutput_mk, M_al_mk, M_thrown_mk, List.cons_append, List.nil_append, List.append_nil]) <;> rfl) dX10_go_17
theorem yv_X10_go : YV yX10_go cX10_go 3 (some .int) 1 := ⟨⟨by decide +kernel, by decide +kernel, by decide +kernel⟩, wd_1567, wd_102, wd_1565, wd_1566⟩
abbrev rm_M_isBit : Room := { frames := 0, cells := 0, slots := 0, locals := 0 }
set_option maxRecDepth 100000 in
set_option maxHeartbeats 4000000 in
theorem m_M_isBit (l : Launch) (D : va_G) (K : Nat → ClassId) (a0 : Int32) (a1 : Int32) {r_ : Int32} (hf : f_M_isBit a0 a1 = some r_) : MI l yX10_isBit cX10_isBit 2 (some .boolean) rm_M_isBit D K [.int a0, .int a1] ([]) r_ ([]) := by
  refine MI_of (loc0 := [(0, .int a0), (1, .int a1)]) (by decide +kernel) rfl (Nat.le_of_ble_eq_true rfl) ?_
  intro p e s m args below meth c A cx
  unfold f_M_isBit at hf
  refine r_ws (ws' := []) rfl ?_
  refine r_iload_n (pc := 0) cx dX10_isBit_0 0 rfl ?_
  refine r_if_lt (pc := 1) (tgt := 13) cx dX10_isBit_1 (by decide) (fun h1 => ?_) (fun h1 => ?_)
  · replace hf := ifp h1 hf
    refine r_iconst (pc := 13) cx dX10_isBit_13 ic_0 ?_
    have hi := inj1 hf
    exact r_zret (pc := 14) cx (Or.inl rfl) hi rfl dX10_isBit_14
  · replace hf := ifn h1 hf
    refine r_iload_n (pc := 4) cx dX10_isBit_4 0 rfl ?_
    refine r_iload_n (pc := 5) cx dX10_isBit_5 1 rfl ?_
    refine r_icmp_ge (pc := 6) (tgt := 13) cx dX10_isBit_6 (by decide) (fun h2 => ?_) (fun h2 => ?_)
    · replace hf := ifp h2 hf
      refine r_iconst (pc := 13) cx dX10_isBit_13 ic_0 ?_
      have hi := inj1 hf
      exact r_zret (pc := 14) cx (Or.inl rfl) hi rfl dX10_isBit_14
    · replace hf := ifn h2 hf
      refine r_iconst (pc := 9) cx dX10_isBit_9 ic_1 ?_
      refine r_goto (pc := 10) (tgt := 14) cx dX10_isBit_10 (by decide) ?_
      have hi := inj1 hf
      exact r_zret (pc := 14) cx (Or.inr rfl) hi rfl dX10_isBit_14
theorem ys_X10_isBit : YS yX10_isBit cX10_isBit 2 (some .boolean) 2 := ⟨⟨by decide +kernel, by decide +kernel, by decide +kernel⟩, wd_1709, wd_102, wd_1708⟩
abbrev rm_M_flippedAt : Room := { frames := 1, cells := 0, slots := 0, locals := 21 }
set_option maxRecDepth 100000 in
set_option maxHeartbeats 4000000 in
theorem m_M_flippedAt (l : Launch) (D : va_G) (K : Nat → ClassId) (q : Nat → Nat) (v : T_M) (a1 : Int32) (a2 : Int32) (a3 : Int32) {r_ : Int32} (hf : f_M_flippedAt v a1 a2 a3 = some r_) : MI l yX10_flippedAt cX10_flippedAt 4 (some .int) rm_M_flippedAt D K [.ref (q 0), .int a1, .int a2, .int a3] (cl_M K q v) r_ (cl_M K q v) := by
  refine MI_of (loc0 := [(0, .ref (q 0)), (1, .int a1), (2, .int a2), (3, .int a3)]) (by decide +kernel) rfl (Nat.le_of_ble_eq_true rfl) ?_
  intro p e s m args below meth c A cx
  unfold f_M_flippedAt at hf
  refine r_ws (ws' := [((q 0), ob 9 [.int (M_thrown v), .ref (q 1), .int (M_taped (M_tp v)), .ref (q 2), .ref (q 3), .ref (q 4), .ref (q 5), .ref (q 6), .ref (q 7), .ref (q 8), .ref (q 9), .ref (q 10), .ref (q 11), .ref (q 12), .ref (q 13), .ref (q 14), .int (M_lines (M_rd v)), .int (M_size (M_rd v)), .int (M_at (M_rd v)), .int (M_place (M_rd v)), .int (M_sort (M_rd v)), .int (M_value (M_rd v)), .int (M_fault (M_rd v)), .int (M_faultPlace (M_rd v)), .int (M_lastFault (M_lf v)), .int (M_lastPlace (M_lf v)), .ref (q 15), .ref (q 16), .ref (q 17), .ref (q 18), .int (M_hasImage (M_im v)), .int (M_spanNow (M_rn v)), .ref (q 19), .int (M_placeThen (M_rn v)), .int (M_alonePlace (M_al v)), .int (M_aloneSteps (M_al v)), .int (M_aloneOut (M_al v)), .ref (q 20), .ref (q 21), .ref (q 22), .ref (q 23), .int (M_shotAlarm (M_ex v)), .int (M_drawn (M_ex v))]), ((q 1), aI K 700 (M_tape (M_tp v))), ((q 2), aI K 20 (M_number (M_cd v))), ((q 3), aZ K 5 (M_isTold (M_rd v))), ((q 4), aI K 80 (M_codeSort (M_cd v))), ((q 5), aI K 80 (M_codeA (M_cd v))), ((q 6), aI K 80 (M_codeB (M_cd v))), ((q 7), aI K 80 (M_codeC (M_cd v))), ((q 8), aI K 80 (M_codeName (M_cd v))), ((q 9), aI K 80 (M_codePlace (M_cd v))), ((q 10), aI K 80 (M_codeTo (M_cd v))), ((q 11), aI K 280 (M_labelName (M_cd v))), ((q 12), aI K 280 (M_labelAt (M_cd v))), ((q 13), aI K 64 (M_data (M_cd v))), ((q 14), aZ K 32 (M_hasData (M_rd v))), ((q 15), aI K 314 (M_s (M_rn v))), ((q 16), aI K 314 (M_aside (M_ex v))), ((q 17), aI K 314 (M_further (M_ex v))), ((q 18), aI K 314 (M_image (M_im v))), ((q 19), aI K 3 (M_sizeNow (M_rn v))), ((q 20), aI K 8 (M_aloneRegister (M_al v))), ((q 21), aI K 4 (M_aloneReal (M_al v))), ((q 22), aI K 32 (M_aloneMemory (M_al v))), ((q 23), aI K 999 (M_aloneOutput (M_al v)))]) rfl ?_
  refine r_iload_n (pc := 0) cx dX10_flippedAt_0 2 rfl ?_
  refine r_if_ge (pc := 1) (tgt := 6) cx dX10_flippedAt_1 (by decide) (fun h1 => ?_) (fun h1 => ?_)
  · replace hf := ifp h1 hf
    refine r_iload_n (pc := 6) cx dX10_flippedAt_6 1 rfl ?_
    by_cases h2 : a1 = (0 : Int32)
    · replace hf := ifp h2 hf
      refine r_tin (pc := 7) (tgt := 72) cx (0 : Int32) h2 dX10_flippedAt_7 (by decide) (by decide) rfl (by decide) ?_
      refine r_iload_n (pc := 72) cx dX10_flippedAt_72 2 rfl ?_
      refine r_bipush (pc := 73) cx dX10_flippedAt_73 bp_8 ?_
      refine r_icmp_ge (pc := 75) (tgt := 98) cx dX10_flippedAt_75 (by decide) (fun h3 => ?_) (fun h3 => ?_)
      · replace hf := ifp h3 hf
        refine r_iconst (pc := 98) cx dX10_flippedAt_98 ic_m1 ?_
        have hi := inj1 hf
        exact r_iret (pc := 99) cx hi rfl dX10_flippedAt_99
      · replace hf := ifn h3 hf
        refine r_iload_n (pc := 78) cx dX10_flippedAt_78 3 rfl ?_
        refine r_bipush (pc := 79) cx dX10_flippedAt_79 bp_32 ?_
        replace hf := bd_of hf
        obtain ⟨r4, hc5, hf⟩ := hf
        refine r_Si (pc := 81) (ws' := [((q 0), ob 9 [.int (M_thrown v), .ref (q 1), .int (M_taped (M_tp v)), .ref (q 2), .ref (q 3), .ref (q 4), .ref (q 5), .ref (q 6), .ref (q 7), .ref (q 8), .ref (q 9), .ref (q 10), .ref (q 11), .ref (q 12), .ref (q 13), .ref (q 14), .int (M_lines (M_rd v)), .int (M_size (M_rd v)), .int (M_at (M_rd v)), .int (M_place (M_rd v)), .int (M_sort (M_rd v)), .int (M_value (M_rd v)), .int (M_fault (M_rd v)), .int (M_faultPlace (M_rd v)), .int (M_lastFault (M_lf v)), .int (M_lastPlace (M_lf v)), .ref (q 15), .ref (q 16), .ref (q 17), .ref (q 18), .int (M_hasImage (M_im v)), .int (M_spanNow (M_rn v)), .ref (q 19), .int (M_placeThen (M_rn v)), .int (M_alonePlace (M_al v)), .int (M_aloneSteps (M_al v)), .int (M_aloneOut (M_al v)), .ref (q 20), .ref (q 21), .ref (q 22), .ref (q 23), .int (M_shotAlarm (M_ex v)), .int (M_drawn (M_ex v))]), ((q 1), aI K 700 (M_tape (M_tp v))), ((q 2), aI K 20 (M_number (M_cd v))), ((q 3), aZ K 5 (M_isTold (M_rd v))), ((q 4), aI K 80 (M_codeSort (M_cd v))), ((q 5), aI K 80 (M_codeA (M_cd v))), ((q 6), aI K 80 (M_codeB (M_cd v))), ((q 7), aI K 80 (M_codeC (M_cd v))), ((q 8), aI K 80 (M_codeName (M_cd v))), ((q 9), aI K 80 (M_codePlace (M_cd v))), ((q 10), aI K 80 (M_codeTo (M_cd v))), ((q 11), aI K 280 (M_labelName (M_cd v))), ((q 12), aI K 280 (M_labelAt (M_cd v))), ((q 13), aI K 64 (M_data (M_cd v))), ((q 14), aZ K 32 (M_hasData (M_rd v))), ((q 15), aI K 314 (M_s (M_rn v))), ((q 16), aI K 314 (M_aside (M_ex v))), ((q 17), aI K 314 (M_further (M_ex v))), ((q 18), aI K 314 (M_image (M_im v))), ((q 19), aI K 3 (M_sizeNow (M_rn v))), ((q 20), aI K 8 (M_aloneRegister (M_al v))), ((q 21), aI K 4 (M_aloneReal (M_al v))), ((q 22), aI K 32 (M_aloneMemory (M_al v))), ((q 23), aI K 999 (M_aloneOutput (M_al v)))]) (wc := []) (nn := 0) cx [.int a3, .int (32 : Int32)] [] (m_M_isBit l D K a3 (32 : Int32) hc5) rfl ys_X10_isBit wd_1707 ⟨rfl, rfl⟩ (by decide) (fr_k (fr_k (fr_k (fr_k (fr_k (fr_k (fr_k (fr_k (fr_k (fr_k (fr_k (fr_k (fr_k (fr_k (fr_k (fr_k (fr_k (fr_k (fr_k (fr_k (fr_k (fr_k (fr_k (fr_k (fr_n))))))))))))))))))))))))) rfl (by decide) rfl (Nat.le_of_ble_eq_true rfl) dX10_flippedAt_81 ?_
        refine r_if_eq (pc := 84) (tgt := 98) cx dX10_flippedAt_84 (by decide) (fun h6 => ?_) (fun h6 => ?_)
        · replace hf := ifp h6 hf
          refine r_iconst (pc := 98) cx dX10_flippedAt_98 ic_m1 ?_
          have hi := inj1 hf
          exact r_iret (pc := 99) cx hi rfl dX10_flippedAt_99
        · replace hf := ifn h6 hf
          refine r_iconst (pc := 87) cx dX10_flippedAt_87 ic_4 ?_
          refine r_bipush (pc := 88) cx dX10_flippedAt_88 bp_8 ?_
          refine r_iload_n (pc := 90) cx dX10_flippedAt_90 1 rfl ?_
          refine r_imul (pc := 91) cx dX10_flippedAt_91 ?_
          refine r_iadd (pc := 92) cx dX10_flippedAt_92 ?_
          refine r_iload_n (pc := 93) cx dX10_flippedAt_93 2 rfl ?_
          refine r_iadd (pc := 94) cx dX10_flippedAt_94 ?_
          refine r_goto (pc := 95) (tgt := 99) cx dX10_flippedAt_95 (by decide) ?_
          have hi := inj1 hf
          exact r_iret (pc := 99) cx hi rfl dX10_flippedAt_99
    · replace hf := ifn h2 hf
      by_cases h7 : a1 = (1 : Int32)
      · replace hf := ifp h7 hf
        refine r_tin (pc := 7) (tgt := 72) cx (1 : Int32) h7 dX10_flippedAt_7 (by decide) (by decide) rfl (by decide) ?_
        refine r_iload_n (pc := 72) cx dX10_flippedAt_72 2 rfl ?_
        refine r_bipush (pc := 73) cx dX10_flippedAt_73 bp_8 ?_
        refine r_icmp_ge (pc := 75) (tgt := 98) cx dX10_flippedAt_75 (by decide) (fun h8 => ?_) (fun h8 => ?_)
        · replace hf := ifp h8 hf
          refine r_iconst (pc := 98) cx dX10_flippedAt_98 ic_m1 ?_
          have hi := inj1 hf
          exact r_iret (pc := 99) cx hi rfl dX10_flippedAt_99
        · replace hf := ifn h8 hf
          refine r_iload_n (pc := 78) cx dX10_flippedAt_78 3 rfl ?_
          refine r_bipush (pc := 79) cx dX10_flippedAt_79 bp_32 ?_
          replace hf := bd_of hf
          obtain ⟨r9, hc10, hf⟩ := hf
          refine r_Si (pc := 81) (ws' := [((q 0), ob 9 [.int (M_thrown v), .ref (q 1), .int (M_taped (M_tp v)), .ref (q 2), .ref (q 3), .ref (q 4), .ref (q 5), .ref (q 6), .ref (q 7), .ref (q 8), .ref (q 9), .ref (q 10), .ref (q 11), .ref (q 12), .ref (q 13), .ref (q 14), .int (M_lines (M_rd v)), .int (M_size (M_rd v)), .int (M_at (M_rd v)), .int (M_place (M_rd v)), .int (M_sort (M_rd v)), .int (M_value (M_rd v)), .int (M_fault (M_rd v)), .int (M_faultPlace (M_rd v)), .int (M_lastFault (M_lf v)), .int (M_lastPlace (M_lf v)), .ref (q 15), .ref (q 16), .ref (q 17), .ref (q 18), .int (M_hasImage (M_im v)), .int (M_spanNow (M_rn v)), .ref (q 19), .int (M_placeThen (M_rn v)), .int (M_alonePlace (M_al v)), .int (M_aloneSteps (M_al v)), .int (M_aloneOut (M_al v)), .ref (q 20), .ref (q 21), .ref (q 22), .ref (q 23), .int (M_shotAlarm (M_ex v)), .int (M_drawn (M_ex v))]), ((q 1), aI K 700 (M_tape (M_tp v))), ((q 2), aI K 20 (M_number (M_cd v))), ((q 3), aZ K 5 (M_isTold (M_rd v))), ((q 4), aI K 80 (M_codeSort (M_cd v))), ((q 5), aI K 80 (M_codeA (M_cd v))), ((q 6), aI K 80 (M_codeB (M_cd v))), ((q 7), aI K 80 (M_codeC (M_cd v))), ((q 8), aI K 80 (M_codeName (M_cd v))), ((q 9), aI K 80 (M_codePlace (M_cd v))), ((q 10), aI K 80 (M_codeTo (M_cd v))), ((q 11), aI K 280 (M_labelName (M_cd v))), ((q 12), aI K 280 (M_labelAt (M_cd v))), ((q 13), aI K 64 (M_data (M_cd v))), ((q 14), aZ K 32 (M_hasData (M_rd v))), ((q 15), aI K 314 (M_s (M_rn v))), ((q 16), aI K 314 (M_aside (M_ex v))), ((q 17), aI K 314 (M_further (M_ex v))), ((q 18), aI K 314 (M_image (M_im v))), ((q 19), aI K 3 (M_sizeNow (M_rn v))), ((q 20), aI K 8 (M_aloneRegister (M_al v))), ((q 21), aI K 4 (M_aloneReal (M_al v))), ((q 22), aI K 32 (M_aloneMemory (M_al v))), ((q 23), aI K 999 (M_aloneOutput (M_al v)))]) (wc := []) (nn := 0) cx [.int a3, .int (32 : Int32)] [] (m_M_isBit l D K a3 (32 : Int32) hc10) rfl ys_X10_isBit wd_1707 ⟨rfl, rfl⟩ (by decide) (fr_k (fr_k (fr_k (fr_k (fr_k (fr_k (fr_k (fr_k (fr_k (fr_k (fr_k (fr_k (fr_k (fr_k (fr_k (fr_k (fr_k (fr_k (fr_k (fr_k (fr_k (fr_k (fr_k (fr_k (fr_n))))))))))))))))))))))))) rfl (by decide) rfl (Nat.le_of_ble_eq_true rfl) dX10_flippedAt_81 ?_
          refine r_if_eq (pc := 84) (tgt := 98) cx dX10_flippedAt_84 (by decide) (fun h11 => ?_) (fun h11 => ?_)
          · replace hf := ifp h11 hf
            refine r_iconst (pc := 98) cx dX10_flippedAt_98 ic_m1 ?_
            have hi := inj1 hf
            exact r_iret (pc := 99) cx hi rfl dX10_flippedAt_99
          · replace hf := ifn h11 hf
            refine r_iconst (pc := 87) cx dX10_flippedAt_87 ic_4 ?_
            refine r_bipush (pc := 88) cx dX10_flippedAt_88 bp_8 ?_
            refine r_iload_n (pc := 90) cx dX10_flippedAt_90 1 rfl ?_
            refine r_imul (pc := 91) cx dX10_flippedAt_91 ?_
            refine r_iadd (pc := 92) cx dX10_flippedAt_92 ?_
            refine r_iload_n (pc := 93) cx dX10_flippedAt_93 2 rfl ?_
            refine r_iadd (pc := 94) cx dX10_flippedAt_94 ?_
            refine r_goto (pc := 95) (tgt := 99) cx dX10_flippedAt_95 (by decide) ?_
            have hi := inj1 hf
            exact r_iret (pc := 99) cx hi rfl dX10_flippedAt_99
      · replace hf := ifn h7 hf
        by_cases h12 : a1 = (2 : Int32)
        · replace hf := ifp h12 hf
          refine r_tin (pc := 7) (tgt := 100) cx (2 : Int32) h12 dX10_flippedAt_7 (by decide) (by decide) rfl (by decide) ?_
          refine r_iload_n (pc := 100) cx dX10_flippedAt_100 2 rfl ?_
          refine r_iconst (pc := 101) cx dX10_flippedAt_101 ic_4 ?_
          refine r_icmp_ge (pc := 102) (tgt := 127) cx dX10_flippedAt_102 (by decide) (fun h13 => ?_) (fun h13 => ?_)
          · replace hf := ifp h13 hf
            refine r_iconst (pc := 127) cx dX10_flippedAt_127 ic_m1 ?_
            have hi := inj1 hf
            exact r_iret (pc := 128) cx hi rfl dX10_flippedAt_128
          · replace hf := ifn h13 hf
            refine r_iload_n (pc := 105) cx dX10_flippedAt_105 3 rfl ?_
            refine r_bipush (pc := 106) cx dX10_flippedAt_106 bp_32 ?_
            replace hf := bd_of hf
            obtain ⟨r14, hc15, hf⟩ := hf
            refine r_Si (pc := 108) (ws' := [((q 0), ob 9 [.int (M_thrown v), .ref (q 1), .int (M_taped (M_tp v)), .ref (q 2), .ref (q 3), .ref (q 4), .ref (q 5), .ref (q 6), .ref (q 7), .ref (q 8), .ref (q 9), .ref (q 10), .ref (q 11), .ref (q 12), .ref (q 13), .ref (q 14), .int (M_lines (M_rd v)), .int (M_size (M_rd v)), .int (M_at (M_rd v)), .int (M_place (M_rd v)), .int (M_sort (M_rd v)), .int (M_value (M_rd v)), .int (M_fault (M_rd v)), .int (M_faultPlace (M_rd v)), .int (M_lastFault (M_lf v)), .int (M_lastPlace (M_lf v)), .ref (q 15), .ref (q 16), .ref (q 17), .ref (q 18), .int (M_hasImage (M_im v)), .int (M_spanNow (M_rn v)), .ref (q 19), .int (M_placeThen (M_rn v)), .int (M_alonePlace (M_al v)), .int (M_aloneSteps (M_al v)), .int (M_aloneOut (M_al v)), .ref (q 20), .ref (q 21), .ref (q 22), .ref (q 23), .int (M_shotAlarm (M_ex v)), .int (M_drawn (M_ex v))]), ((q 1), aI K 700 (M_tape (M_tp v))), ((q 2), aI K 20 (M_number (M_cd v))), ((q 3), aZ K 5 (M_isTold (M_rd v))), ((q 4), aI K 80 (M_codeSort (M_cd v))), ((q 5), aI K 80 (M_codeA (M_cd v))), ((q 6), aI K 80 (M_codeB (M_cd v))), ((q 7), aI K 80 (M_codeC (M_cd v))), ((q 8), aI K 80 (M_codeName (M_cd v))), ((q 9), aI K 80 (M_codePlace (M_cd v))), ((q 10), aI K 80 (M_codeTo (M_cd v))), ((q 11), aI K 280 (M_labelName (M_cd v))), ((q 12), aI K 280 (M_labelAt (M_cd v))), ((q 13), aI K 64 (M_data (M_cd v))), ((q 14), aZ K 32 (M_hasData (M_rd v))), ((q 15), aI K 314 (M_s (M_rn v))), ((q 16), aI K 314 (M_aside (M_ex v))), ((q 17), aI K 314 (M_further (M_ex v))), ((q 18), aI K 314 (M_image (M_im v))), ((q 19), aI K 3 (M_sizeNow (M_rn v))), ((q 20), aI K 8 (M_aloneRegister (M_al v))), ((q 21), aI K 4 (M_aloneReal (M_al v))), ((q 22), aI K 32 (M_aloneMemory (M_al v))), ((q 23), aI K 999 (M_aloneOutput (M_al v)))]) (wc := []) (nn := 0) cx [.int a3, .int (32 : Int32)] [] (m_M_isBit l D K a3 (32 : Int32) hc15) rfl ys_X10_isBit wd_1707 ⟨rfl, rfl⟩ (by decide) (fr_k (fr_k (fr_k (fr_k (fr_k (fr_k (fr_k (fr_k (fr_k (fr_k (fr_k (fr_k (fr_k (fr_k (fr_k (fr_k (fr_k (fr_k (fr_k (fr_k (fr_k (fr_k (fr_k (fr_k (fr_n))))))))))))))))))))))))) rfl (by decide) rfl (Nat.le_of_ble_eq_true rfl) dX10_flippedAt_108 ?_
            refine r_if_eq (pc := 111) (tgt := 127) cx dX10_flippedAt_111 (by decide) (fun h16 => ?_) (fun h16 => ?_)
            · replace hf := ifp h16 hf
              refine r_iconst (pc := 127) cx dX10_flippedAt_127 ic_m1 ?_
              have hi := inj1 hf
              exact r_iret (pc := 128) cx hi rfl dX10_flippedAt_128
            · replace hf := ifn h16 hf
              refine r_bipush (pc := 114) cx dX10_flippedAt_114 bp_20 ?_
              refine r_iconst (pc := 116) cx dX10_flippedAt_116 ic_4 ?_
              refine r_iload_n (pc := 117) cx dX10_flippedAt_117 1 rfl ?_
              refine r_iconst (pc := 118) cx dX10_flippedAt_118 ic_2 ?_
              refine r_isub (pc := 119) cx dX10_flippedAt_119 ?_
              refine r_imul (pc := 120) cx dX10_flippedAt_120 ?_
              refine r_iadd (pc := 121) cx dX10_flippedAt_121 ?_
              refine r_iload_n (pc := 122) cx dX10_flippedAt_122 2 rfl ?_
              refine r_iadd (pc := 123) cx dX10_flippedAt_123 ?_
              refine r_goto (pc := 124) (tgt := 128) cx dX10_flippedAt_124 (by decide) ?_
              have hi := inj1 hf
              exact r_iret (pc := 128) cx hi rfl dX10_flippedAt_128
        · replace hf := ifn h12 hf
          by_cases h17 : a1 = (3 : Int32)
          · replace hf := ifp h17 hf
            refine r_tin (pc := 7) (tgt := 100) cx (3 : Int32) h17 dX10_flippedAt_7 (by decide) (by decide) rfl (by decide) ?_
            refine r_iload_n (pc := 100) cx dX10_flippedAt_100 2 rfl ?_
            refine r_iconst (pc := 101) cx dX10_flippedAt_101 ic_4 ?_
            refine r_icmp_ge (pc := 102) (tgt := 127) cx dX10_flippedAt_102 (by decide) (fun h18 => ?_) (fun h18 => ?_)
            · replace hf := ifp h18 hf
              refine r_iconst (pc := 127) cx dX10_flippedAt_127 ic_m1 ?_
              have hi := inj1 hf
              exact r_iret (pc := 128) cx hi rfl dX10_flippedAt_128
            · replace hf := ifn h18 hf
              refine r_iload_n (pc := 105) cx dX10_flippedAt_105 3 rfl ?_
              refine r_bipush (pc := 106) cx dX10_flippedAt_106 bp_32 ?_
              replace hf := bd_of hf
              obtain ⟨r19, hc20, hf⟩ := hf
              refine r_Si (pc := 108) (ws' := [((q 0), ob 9 [.int (M_thrown v), .ref (q 1), .int (M_taped (M_tp v)), .ref (q 2), .ref (q 3), .ref (q 4), .ref (q 5), .ref (q 6), .ref (q 7), .ref (q 8), .ref (q 9), .ref (q 10), .ref (q 11), .ref (q 12), .ref (q 13), .ref (q 14), .int (M_lines (M_rd v)), .int (M_size (M_rd v)), .int (M_at (M_rd v)), .int (M_place (M_rd v)), .int (M_sort (M_rd v)), .int (M_value (M_rd v)), .int (M_fault (M_rd v)), .int (M_faultPlace (M_rd v)), .int (M_lastFault (M_lf v)), .int (M_lastPlace (M_lf v)), .ref (q 15), .ref (q 16), .ref (q 17), .ref (q 18), .int (M_hasImage (M_im v)), .int (M_spanNow (M_rn v)), .ref (q 19), .int (M_placeThen (M_rn v)), .int (M_alonePlace (M_al v)), .int (M_aloneSteps (M_al v)), .int (M_aloneOut (M_al v)), .ref (q 20), .ref (q 21), .ref (q 22), .ref (q 23), .int (M_shotAlarm (M_ex v)), .int (M_drawn (M_ex v))]), ((q 1), aI K 700 (M_tape (M_tp v))), ((q 2), aI K 20 (M_number (M_cd v))), ((q 3), aZ K 5 (M_isTold (M_rd v))), ((q 4), aI K 80 (M_codeSort (M_cd v))), ((q 5), aI K 80 (M_codeA (M_cd v))), ((q 6), aI K 80 (M_codeB (M_cd v))), ((q 7), aI K 80 (M_codeC (M_cd v))), ((q 8), aI K 80 (M_codeName (M_cd v))), ((q 9), aI K 80 (M_codePlace (M_cd v))), ((q 10), aI K 80 (M_codeTo (M_cd v))), ((q 11), aI K 280 (M_labelName (M_cd v))), ((q 12), aI K 280 (M_labelAt (M_cd v))), ((q 13), aI K 64 (M_data (M_cd v))), ((q 14), aZ K 32 (M_hasData (M_rd v))), ((q 15), aI K 314 (M_s (M_rn v))), ((q 16), aI K 314 (M_aside (M_ex v))), ((q 17), aI K 314 (M_further (M_ex v))), ((q 18), aI K 314 (M_image (M_im v))), ((q 19), aI K 3 (M_sizeNow (M_rn v))), ((q 20), aI K 8 (M_aloneRegister (M_al v))), ((q 21), aI K 4 (M_aloneReal (M_al v))), ((q 22), aI K 32 (M_aloneMemory (M_al v))), ((q 23), aI K 999 (M_aloneOutput (M_al v)))]) (wc := []) (nn := 0) cx [.int a3, .int (32 : Int32)] [] (m_M_isBit l D K a3 (32 : Int32) hc20) rfl ys_X10_isBit wd_1707 ⟨rfl, rfl⟩ (by decide) (fr_k (fr_k (fr_k (fr_k (fr_k (fr_k (fr_k (fr_k (fr_k (fr_k (fr_k (fr_k (fr_k (fr_k (fr_k (fr_k (fr_k (fr_k (fr_k (fr_k (fr_k (fr_k (fr_k (fr_k (fr_n))))))))))))))))))))))))) rfl (by decide) rfl (Nat.le_of_ble_eq_true rfl) dX10_flippedAt_108 ?_
              refine r_if_eq (pc := 111) (tgt := 127) cx dX10_flippedAt_111 (by decide) (fun h21 => ?_) (fun h21 => ?_)
              · replace hf := ifp h21 hf
                refine r_iconst (pc := 127) cx dX10_flippedAt_127 ic_m1 ?_
                have hi := inj1 hf
                exact r_iret (pc := 128) cx hi rfl dX10_flippedAt_128
              · replace hf := ifn h21 hf
                refine r_bipush (pc := 114) cx dX10_flippedAt_114 bp_20 ?_
                refine r_iconst (pc := 116) cx dX10_flippedAt_116 ic_4 ?_
                refine r_iload_n (pc := 117) cx dX10_flippedAt_117 1 rfl ?_
                refine r_iconst (pc := 118) cx dX10_flippedAt_118 ic_2 ?_
                refine r_isub (pc := 119) cx dX10_flippedAt_119 ?_
                refine r_imul (pc := 120) cx dX10_flippedAt_120 ?_
                refine r_iadd (pc := 121) cx dX10_flippedAt_121 ?_
                refine r_iload_n (pc := 122) cx dX10_flippedAt_122 2 rfl ?_
                refine r_iadd (pc := 123) cx dX10_flippedAt_123 ?_
                refine r_goto (pc := 124) (tgt := 128) cx dX10_flippedAt_124 (by decide) ?_
                have hi := inj1 hf
                exact r_iret (pc := 128) cx hi rfl dX10_flippedAt_128
          · replace hf := ifn h17 hf
            by_cases h22 : a1 = (4 : Int32)
            · replace hf := ifp h22 hf
              refine r_tin (pc := 7) (tgt := 129) cx (4 : Int32) h22 dX10_flippedAt_7 (by decide) (by decide) rfl (by decide) ?_
              refine r_iload_n (pc := 129) cx dX10_flippedAt_129 2 rfl ?_
              refine r_if_ne (pc := 130) (tgt := 150) cx dX10_flippedAt_130 (by decide) (fun h23 => ?_) (fun h23 => ?_)
              · replace hf := ifn h23 hf
                refine r_iconst (pc := 150) cx dX10_flippedAt_150 ic_m1 ?_
                have hi := inj1 hf
                exact r_iret (pc := 151) cx hi rfl dX10_flippedAt_151
              · replace hf := ifp h23 hf
                refine r_iload_n (pc := 133) cx dX10_flippedAt_133 3 rfl ?_
                refine r_bipush (pc := 134) cx dX10_flippedAt_134 bp_6 ?_
                replace hf := bd_of hf
                obtain ⟨r24, hc25, hf⟩ := hf
                refine r_Si (pc := 136) (ws' := [((q 0), ob 9 [.int (M_thrown v), .ref (q 1), .int (M_taped (M_tp v)), .ref (q 2), .ref (q 3), .ref (q 4), .ref (q 5), .ref (q 6), .ref (q 7), .ref (q 8), .ref (q 9), .ref (q 10), .ref (q 11), .ref (q 12), .ref (q 13), .ref (q 14), .int (M_lines (M_rd v)), .int (M_size (M_rd v)), .int (M_at (M_rd v)), .int (M_place (M_rd v)), .int (M_sort (M_rd v)), .int (M_value (M_rd v)), .int (M_fault (M_rd v)), .int (M_faultPlace (M_rd v)), .int (M_lastFault (M_lf v)), .int (M_lastPlace (M_lf v)), .ref (q 15), .ref (q 16), .ref (q 17), .ref (q 18), .int (M_hasImage (M_im v)), .int (M_spanNow (M_rn v)), .ref (q 19), .int (M_placeThen (M_rn v)), .int (M_alonePlace (M_al v)), .int (M_aloneSteps (M_al v)), .int (M_aloneOut (M_al v)), .ref (q 20), .ref (q 21), .ref (q 22), .ref (q 23), .int (M_shotAlarm (M_ex v)), .int (M_drawn (M_ex v))]), ((q 1), aI K 700 (M_tape (M_tp v))), ((q 2), aI K 20 (M_number (M_cd v))), ((q 3), aZ K 5 (M_isTold (M_rd v))), ((q 4), aI K 80 (M_codeSort (M_cd v))), ((q 5), aI K 80 (M_codeA (M_cd v))), ((q 6), aI K 80 (M_codeB (M_cd v))), ((q 7), aI K 80 (M_codeC (M_cd v))), ((q 8), aI K 80 (M_codeName (M_cd v))), ((q 9), aI K 80 (M_codePlace (M_cd v))), ((q 10), aI K 80 (M_codeTo (M_cd v))), ((q 11), aI K 280 (M_labelName (M_cd v))), ((q 12), aI K 280 (M_labelAt (M_cd v))), ((q 13), aI K 64 (M_data (M_cd v))), ((q 14), aZ K 32 (M_hasData (M_rd v))), ((q 15), aI K 314 (M_s (M_rn v))), ((q 16), aI K 314 (M_aside (M_ex v))), ((q 17), aI K 314 (M_further (M_ex v))), ((q 18), aI K 314 (M_image (M_im v))), ((q 19), aI K 3 (M_sizeNow (M_rn v))), ((q 20), aI K 8 (M_aloneRegister (M_al v))), ((q 21), aI K 4 (M_aloneReal (M_al v))), ((q 22), aI K 32 (M_aloneMemory (M_al v))), ((q 23), aI K 999 (M_aloneOutput (M_al v)))]) (wc := []) (nn := 0) cx [.int a3, .int (6 : Int32)] [] (m_M_isBit l D K a3 (6 : Int32) hc25) rfl ys_X10_isBit wd_1707 ⟨rfl, rfl⟩ (by decide) (fr_k (fr_k (fr_k (fr_k (fr_k (fr_k (fr_k (fr_k (fr_k (fr_k (fr_k (fr_k (fr_k (fr_k (fr_k (fr_k (fr_k (fr_k (fr_k (fr_k (fr_k (fr_k (fr_k (fr_k (fr_n))))))))))))))))))))))))) rfl (by decide) rfl (Nat.le_of_ble_eq_true rfl) dX10_flippedAt_136 ?_
                refine r_if_eq (pc := 139) (tgt := 150) cx dX10_flippedAt_139 (by decide) (fun h26 => ?_) (fun h26 => ?_)
                · replace hf := ifp h26 hf
                  refine r_iconst (pc := 150) cx dX10_flippedAt_150 ic_m1 ?_
                  have hi := inj1 hf
                  exact r_iret (pc := 151) cx hi rfl dX10_flippedAt_151
                · replace hf := ifn h26 hf
                  refine r_iconst (pc := 142) cx dX10_flippedAt_142 ic_0 ?_
                  refine r_iload_n (pc := 143) cx dX10_flippedAt_143 1 rfl ?_
                  refine r_iadd (pc := 144) cx dX10_flippedAt_144 ?_
                  refine r_iconst (pc := 145) cx dX10_flippedAt_145 ic_4 ?_
                  refine r_isub (pc := 146) cx dX10_flippedAt_146 ?_
                  refine r_goto (pc := 147) (tgt := 151) cx dX10_flippedAt_147 (by decide) ?_
                  have hi := inj1 hf
                  exact r_iret (pc := 151) cx hi rfl dX10_flippedAt_151
            · replace hf := ifn h22 hf
              by_cases h27 : a1 = (5 : Int32)
              · replace hf := ifp h27 hf
                refine r_tin (pc := 7) (tgt := 129) cx (5 : Int32) h27 dX10_flippedAt_7 (by decide) (by decide) rfl (by decide) ?_
                refine r_iload_n (pc := 129) cx dX10_flippedAt_129 2 rfl ?_
                refine r_if_ne (pc := 130) (tgt := 150) cx dX10_flippedAt_130 (by decide) (fun h28 => ?_) (fun h28 => ?_)
                · replace hf := ifn h28 hf
                  refine r_iconst (pc := 150) cx dX10_flippedAt_150 ic_m1 ?_
                  have hi := inj1 hf
                  exact r_iret (pc := 151) cx hi rfl dX10_flippedAt_151
                · replace hf := ifp h28 hf
                  refine r_iload_n (pc := 133) cx dX10_flippedAt_133 3 rfl ?_
                  refine r_bipush (pc := 134) cx dX10_flippedAt_134 bp_6 ?_
                  replace hf := bd_of hf
                  obtain ⟨r29, hc30, hf⟩ := hf
                  refine r_Si (pc := 136) (ws' := [((q 0), ob 9 [.int (M_thrown v), .ref (q 1), .int (M_taped (M_tp v)), .ref (q 2), .ref (q 3), .ref (q 4), .ref (q 5), .ref (q 6), .ref (q 7), .ref (q 8), .ref (q 9), .ref (q 10), .ref (q 11), .ref (q 12), .ref (q 13), .ref (q 14), .int (M_lines (M_rd v)), .int (M_size (M_rd v)), .int (M_at (M_rd v)), .int (M_place (M_rd v)), .int (M_sort (M_rd v)), .int (M_value (M_rd v)), .int (M_fault (M_rd v)), .int (M_faultPlace (M_rd v)), .int (M_lastFault (M_lf v)), .int (M_lastPlace (M_lf v)), .ref (q 15), .ref (q 16), .ref (q 17), .ref (q 18), .int (M_hasImage (M_im v)), .int (M_spanNow (M_rn v)), .ref (q 19), .int (M_placeThen (M_rn v)), .int (M_alonePlace (M_al v)), .int (M_aloneSteps (M_al v)), .int (M_aloneOut (M_al v)), .ref (q 20), .ref (q 21), .ref (q 22), .ref (q 23), .int (M_shotAlarm (M_ex v)), .int (M_drawn (M_ex v))]), ((q 1), aI K 700 (M_tape (M_tp v))), ((q 2), aI K 20 (M_number (M_cd v))), ((q 3), aZ K 5 (M_isTold (M_rd v))), ((q 4), aI K 80 (M_codeSort (M_cd v))), ((q 5), aI K 80 (M_codeA (M_cd v))), ((q 6), aI K 80 (M_codeB (M_cd v))), ((q 7), aI K 80 (M_codeC (M_cd v))), ((q 8), aI K 80 (M_codeName (M_cd v))), ((q 9), aI K 80 (M_codePlace (M_cd v))), ((q 10), aI K 80 (M_codeTo (M_cd v))), ((q 11), aI K 280 (M_labelName (M_cd v))), ((q 12), aI K 280 (M_labelAt (M_cd v))), ((q 13), aI K 64 (M_data (M_cd v))), ((q 14), aZ K 32 (M_hasData (M_rd v))), ((q 15), aI K 314 (M_s (M_rn v))), ((q 16), aI K 314 (M_aside (M_ex v))), ((q 17), aI K 314 (M_further (M_ex v))), ((q 18), aI K 314 (M_image (M_im v))), ((q 19), aI K 3 (M_sizeNow (M_rn v))), ((q 20), aI K 8 (M_aloneRegister (M_al v))), ((q 21), aI K 4 (M_aloneReal (M_al v))), ((q 22), aI K 32 (M_aloneMemory (M_al v))), ((q 23), aI K 999 (M_aloneOutput (M_al v)))]) (wc := []) (nn := 0) cx [.int a3, .int (6 : Int32)] [] (m_M_isBit l D K a3 (6 : Int32) hc30) rfl ys_X10_isBit wd_1707 ⟨rfl, rfl⟩ (by decide) (fr_k (fr_k (fr_k (fr_k (fr_k (fr_k (fr_k (fr_k (fr_k (fr_k (fr_k (fr_k (fr_k (fr_k (fr_k (fr_k (fr_k (fr_k (fr_k (fr_k (fr_k (fr_k (fr_k (fr_k (fr_n))))))))))))))))))))))))) rfl (by decide) rfl (Nat.le_of_ble_eq_true rfl) dX10_flippedAt_136 ?_
                  refine r_if_eq (pc := 139) (tgt := 150) cx dX10_flippedAt_139 (by decide) (fun h31 => ?_) (fun h31 => ?_)
                  · replace hf := ifp h31 hf
                    refine r_iconst (pc := 150) cx dX10_flippedAt_150 ic_m1 ?_
                    have hi := inj1 hf
                    exact r_iret (pc := 151) cx hi rfl dX10_flippedAt_151
                  · replace hf := ifn h31 hf
                    refine r_iconst (pc := 142) cx dX10_flippedAt_142 ic_0 ?_
                    refine r_iload_n (pc := 143) cx dX10_flippedAt_143 1 rfl ?_
                    refine r_iadd (pc := 144) cx dX10_flippedAt_144 ?_
                    refine r_iconst (pc := 145) cx dX10_flippedAt_145 ic_4 ?_
                    refine r_isub (pc := 146) cx dX10_flippedAt_146 ?_
                    refine r_goto (pc := 147) (tgt := 151) cx dX10_flippedAt_147 (by decide) ?_
                    have hi := inj1 hf
                    exact r_iret (pc := 151) cx hi rfl dX10_flippedAt_151
              · replace hf := ifn h27 hf
                by_cases h32 : a1 = (6 : Int32)
                · replace hf := ifp h32 hf
                  refine r_tin (pc := 7) (tgt := 152) cx (6 : Int32) h32 dX10_flippedAt_7 (by decide) (by decide) rfl (by decide) ?_
                  refine r_iload_n (pc := 152) cx dX10_flippedAt_152 2 rfl ?_
                  refine r_aload_n (pc := 153) cx dX10_flippedAt_153 0 rfl ?_
                  refine r_get (pc := 154) cx cf_X10 0 26 rfl (by decide) rfl wd_1342 dX10_flippedAt_154 ?_
                  refine r_bipush (pc := 157) cx dX10_flippedAt_157 bp_86 ?_
                  refine r_iald (pc := 159) cx 15 rfl (by decide) dX10_flippedAt_159 ?_
                  refine r_icmp_ge (pc := 160) (tgt := 178) cx dX10_flippedAt_160 (by decide) (fun h33 => ?_) (fun h33 => ?_)
                  · replace hf := ifp h33 hf
                    refine r_iconst (pc := 178) cx dX10_flippedAt_178 ic_m1 ?_
                    have hi := inj1 hf
                    exact r_iret (pc := 179) cx hi rfl dX10_flippedAt_179
                  · replace hf := ifn h33 hf
                    refine r_iload_n (pc := 163) cx dX10_flippedAt_163 3 rfl ?_
                    refine r_iconst (pc := 164) cx dX10_flippedAt_164 ic_5 ?_
                    replace hf := bd_of hf
                    obtain ⟨r34, hc35, hf⟩ := hf
                    refine r_Si (pc := 165) (ws' := [((q 0), ob 9 [.int (M_thrown v), .ref (q 1), .int (M_taped (M_tp v)), .ref (q 2), .ref (q 3), .ref (q 4), .ref (q 5), .ref (q 6), .ref (q 7), .ref (q 8), .ref (q 9), .ref (q 10), .ref (q 11), .ref (q 12), .ref (q 13), .ref (q 14), .int (M_lines (M_rd v)), .int (M_size (M_rd v)), .int (M_at (M_rd v)), .int (M_place (M_rd v)), .int (M_sort (M_rd v)), .int (M_value (M_rd v)), .int (M_fault (M_rd v)), .int (M_faultPlace (M_rd v)), .int (M_lastFault (M_lf v)), .int (M_lastPlace (M_lf v)), .ref (q 15), .ref (q 16), .ref (q 17), .ref (q 18), .int (M_hasImage (M_im v)), .int (M_spanNow (M_rn v)), .ref (q 19), .int (M_placeThen (M_rn v)), .int (M_alonePlace (M_al v)), .int (M_aloneSteps (M_al v)), .int (M_aloneOut (M_al v)), .ref (q 20), .ref (q 21), .ref (q 22), .ref (q 23), .int (M_shotAlarm (M_ex v)), .int (M_drawn (M_ex v))]), ((q 1), aI K 700 (M_tape (M_tp v))), ((q 2), aI K 20 (M_number (M_cd v))), ((q 3), aZ K 5 (M_isTold (M_rd v))), ((q 4), aI K 80 (M_codeSort (M_cd v))), ((q 5), aI K 80 (M_codeA (M_cd v))), ((q 6), aI K 80 (M_codeB (M_cd v))), ((q 7), aI K 80 (M_codeC (M_cd v))), ((q 8), aI K 80 (M_codeName (M_cd v))), ((q 9), aI K 80 (M_codePlace (M_cd v))), ((q 10), aI K 80 (M_codeTo (M_cd v))), ((q 11), aI K 280 (M_labelName (M_cd v))), ((q 12), aI K 280 (M_labelAt (M_cd v))), ((q 13), aI K 64 (M_data (M_cd v))), ((q 14), aZ K 32 (M_hasData (M_rd v))), ((q 15), aI K 314 (M_s (M_rn v))), ((q 16), aI K 314 (M_aside (M_ex v))), ((q 17), aI K 314 (M_further (M_ex v))), ((q 18), aI K 314 (M_image (M_im v))), ((q 19), aI K 3 (M_sizeNow (M_rn v))), ((q 20), aI K 8 (M_aloneRegister (M_al v))), ((q 21), aI K 4 (M_aloneReal (M_al v))), ((q 22), aI K 32 (M_aloneMemory (M_al v))), ((q 23), aI K 999 (M_aloneOutput (M_al v)))]) (wc := []) (nn := 0) cx [.int a3, .int (5 : Int32)] [] (m_M_isBit l D K a3 (5 : Int32) hc35) rfl ys_X10_isBit wd_1707 ⟨rfl, rfl⟩ (by decide) (fr_k (fr_k (fr_k (fr_k (fr_k (fr_k (fr_k (fr_k (fr_k (fr_k (fr_k (fr_k (fr_k (fr_k (fr_k (fr_k (fr_k (fr_k (fr_k (fr_k (fr_k (fr_k (fr_k (fr_k (fr_n))))))))))))))))))))))))) rfl (by decide) rfl (Nat.le_of_ble_eq_true rfl) dX10_flippedAt_165 ?_
                    refine r_if_eq (pc := 168) (tgt := 178) cx dX10_flippedAt_168 (by decide) (fun h36 => ?_) (fun h36 => ?_)
                    · replace hf := ifp h36 hf
                      refine r_iconst (pc := 178) cx dX10_flippedAt_178 ic_m1 ?_
                      have hi := inj1 hf
                      exact r_iret (pc := 179) cx hi rfl dX10_flippedAt_179
                    · replace hf := ifn h36 hf
                      refine r_bipush (pc := 171) cx dX10_flippedAt_171 bp_87 ?_
                      refine r_iload_n (pc := 173) cx dX10_flippedAt_173 2 rfl ?_
                      refine r_iadd (pc := 174) cx dX10_flippedAt_174 ?_
                      refine r_goto (pc := 175) (tgt := 179) cx dX10_flippedAt_175 (by decide) ?_
                      have hi := inj1 hf
                      exact r_iret (pc := 179) cx hi rfl dX10_flippedAt_179
                · replace hf := ifn h32 hf
                  by_cases h37 : a1 = (7 : Int32)
                  · replace hf := ifp h37 hf
                    refine r_tin (pc := 7) (tgt := 180) cx (7 : Int32) h37 dX10_flippedAt_7 (by decide) (by decide) rfl (by decide) ?_
                    refine r_iload_n (pc := 180) cx dX10_flippedAt_180 2 rfl ?_
                    refine r_aload_n (pc := 181) cx dX10_flippedAt_181 0 rfl ?_
                    refine r_get (pc := 182) cx cf_X10 0 26 rfl (by decide) rfl wd_1342 dX10_flippedAt_182 ?_
                    refine r_bipush (pc := 185) cx dX10_flippedAt_185 bp_86 ?_
                    refine r_iald (pc := 187) cx 15 rfl (by decide) dX10_flippedAt_187 ?_
                    refine r_icmp_ge (pc := 188) (tgt := 207) cx dX10_flippedAt_188 (by decide) (fun h38 => ?_) (fun h38 => ?_)
                    · replace hf := ifp h38 hf
                      refine r_iconst (pc := 207) cx dX10_flippedAt_207 ic_m1 ?_
                      have hi := inj1 hf
                      exact r_iret (pc := 208) cx hi rfl dX10_flippedAt_208
                    · replace hf := ifn h38 hf
                      refine r_iload_n (pc := 191) cx dX10_flippedAt_191 3 rfl ?_
                      refine r_bipush (pc := 192) cx dX10_flippedAt_192 bp_32 ?_
                      replace hf := bd_of hf
                      obtain ⟨r39, hc40, hf⟩ := hf
                      refine r_Si (pc := 194) (ws' := [((q 0), ob 9 [.int (M_thrown v), .ref (q 1), .int (M_taped (M_tp v)), .ref (q 2), .ref (q 3), .ref (q 4), .ref (q 5), .ref (q 6), .ref (q 7), .ref (q 8), .ref (q 9), .ref (q 10), .ref (q 11), .ref (q 12), .ref (q 13), .ref (q 14), .int (M_lines (M_rd v)), .int (M_size (M_rd v)), .int (M_at (M_rd v)), .int (M_place (M_rd v)), .int (M_sort (M_rd v)), .int (M_value (M_rd v)), .int (M_fault (M_rd v)), .int (M_faultPlace (M_rd v)), .int (M_lastFault (M_lf v)), .int (M_lastPlace (M_lf v)), .ref (q 15), .ref (q 16), .ref (q 17), .ref (q 18), .int (M_hasImage (M_im v)), .int (M_spanNow (M_rn v)), .ref (q 19), .int (M_placeThen (M_rn v)), .int (M_alonePlace (M_al v)), .int (M_aloneSteps (M_al v)), .int (M_aloneOut (M_al v)), .ref (q 20), .ref (q 21), .ref (q 22), .ref (q 23), .int (M_shotAlarm (M_ex v)), .int (M_drawn (M_ex v))]), ((q 1), aI K 700 (M_tape (M_tp v))), ((q 2), aI K 20 (M_number (M_cd v))), ((q 3), aZ K 5 (M_isTold (M_rd v))), ((q 4), aI K 80 (M_codeSort (M_cd v))), ((q 5), aI K 80 (M_codeA (M_cd v))), ((q 6), aI K 80 (M_codeB (M_cd v))), ((q 7), aI K 80 (M_codeC (M_cd v))), ((q 8), aI K 80 (M_codeName (M_cd v))), ((q 9), aI K 80 (M_codePlace (M_cd v))), ((q 10), aI K 80 (M_codeTo (M_cd v))), ((q 11), aI K 280 (M_labelName (M_cd v))), ((q 12), aI K 280 (M_labelAt (M_cd v))), ((q 13), aI K 64 (M_data (M_cd v))), ((q 14), aZ K 32 (M_hasData (M_rd v))), ((q 15), aI K 314 (M_s (M_rn v))), ((q 16), aI K 314 (M_aside (M_ex v))), ((q 17), aI K 314 (M_further (M_ex v))), ((q 18), aI K 314 (M_image (M_im v))), ((q 19), aI K 3 (M_sizeNow (M_rn v))), ((q 20), aI K 8 (M_aloneRegister (M_al v))), ((q 21), aI K 4 (M_aloneReal (M_al v))), ((q 22), aI K 32 (M_aloneMemory (M_al v))), ((q 23), aI K 999 (M_aloneOutput (M_al v)))]) (wc := []) (nn := 0) cx [.int a3, .int (32 : Int32)] [] (m_M_isBit l D K a3 (32 : Int32) hc40) rfl ys_X10_isBit wd_1707 ⟨rfl, rfl⟩ (by decide) (fr_k (fr_k (fr_k (fr_k (fr_k (fr_k (fr_k (fr_k (fr_k (fr_k (fr_k (fr_k (fr_k (fr_k (fr_k (fr_k (fr_k (fr_k (fr_k (fr_k (fr_k (fr_k (fr_k (fr_k (fr_n))))))))))))))))))))))))) rfl (by decide) rfl (Nat.le_of_ble_eq_true rfl) dX10_flippedAt_194 ?_
                      refine r_if_eq (pc := 197) (tgt := 207) cx dX10_flippedAt_197 (by decide) (fun h41 => ?_) (fun h41 => ?_)
                      · replace hf := ifp h41 hf
                        refine r_iconst (pc := 207) cx dX10_flippedAt_207 ic_m1 ?_
                        have hi := inj1 hf
                        exact r_iret (pc := 208) cx hi rfl dX10_flippedAt_208
                      · replace hf := ifn h41 hf
                        refine r_bipush (pc := 200) cx dX10_flippedAt_200 bp_95 ?_
                        refine r_iload_n (pc := 202) cx dX10_flippedAt_202 2 rfl ?_
                        refine r_iadd (pc := 203) cx dX10_flippedAt_203 ?_
                        refine r_goto (pc := 204) (tgt := 208) cx dX10_flippedAt_204 (by decide) ?_
                        have hi := inj1 hf
                        exact r_iret (pc := 208) cx hi rfl dX10_flippedAt_208
                  · replace hf := ifn h37 hf
                    by_cases h42 : a1 = (8 : Int32)
                    · replace hf := ifp h42 hf
                      refine r_tin (pc := 7) (tgt := 209) cx (8 : Int32) h42 dX10_flippedAt_7 (by decide) (by decide) rfl (by decide) ?_
                      refine r_iload_n (pc := 209) cx dX10_flippedAt_209 2 rfl ?_
                      refine r_aload_n (pc := 210) cx dX10_flippedAt_210 0 rfl ?_
                      refine r_get (pc := 211) cx cf_X10 0 26 rfl (by decide) rfl wd_1342 dX10_flippedAt_211 ?_
                      refine r_bipush (pc := 214) cx dX10_flippedAt_214 bp_103 ?_
                      refine r_iald (pc := 216) cx 15 rfl (by decide) dX10_flippedAt_216 ?_
                      refine r_icmp_ge (pc := 217) (tgt := 235) cx dX10_flippedAt_217 (by decide) (fun h43 => ?_) (fun h43 => ?_)
                      · replace hf := ifp h43 hf
                        refine r_iconst (pc := 235) cx dX10_flippedAt_235 ic_m1 ?_
                        have hi := inj1 hf
                        exact r_iret (pc := 236) cx hi rfl dX10_flippedAt_236
                      · replace hf := ifn h43 hf
                        refine r_iload_n (pc := 220) cx dX10_flippedAt_220 3 rfl ?_
                        refine r_iconst (pc := 221) cx dX10_flippedAt_221 ic_1 ?_
                        replace hf := bd_of hf
                        obtain ⟨r44, hc45, hf⟩ := hf
                        refine r_Si (pc := 222) (ws' := [((q 0), ob 9 [.int (M_thrown v), .ref (q 1), .int (M_taped (M_tp v)), .ref (q 2), .ref (q 3), .ref (q 4), .ref (q 5), .ref (q 6), .ref (q 7), .ref (q 8), .ref (q 9), .ref (q 10), .ref (q 11), .ref (q 12), .ref (q 13), .ref (q 14), .int (M_lines (M_rd v)), .int (M_size (M_rd v)), .int (M_at (M_rd v)), .int (M_place (M_rd v)), .int (M_sort (M_rd v)), .int (M_value (M_rd v)), .int (M_fault (M_rd v)), .int (M_faultPlace (M_rd v)), .int (M_lastFault (M_lf v)), .int (M_lastPlace (M_lf v)), .ref (q 15), .ref (q 16), .ref (q 17), .ref (q 18), .int (M_hasImage (M_im v)), .int (M_spanNow (M_rn v)), .ref (q 19), .int (M_placeThen (M_rn v)), .int (M_alonePlace (M_al v)), .int (M_aloneSteps (M_al v)), .int (M_aloneOut (M_al v)), .ref (q 20), .ref (q 21), .ref (q 22), .ref (q 23), .int (M_shotAlarm (M_ex v)), .int (M_drawn (M_ex v))]), ((q 1), aI K 700 (M_tape (M_tp v))), ((q 2), aI K 20 (M_number (M_cd v))), ((q 3), aZ K 5 (M_isTold (M_rd v))), ((q 4), aI K 80 (M_codeSort (M_cd v))), ((q 5), aI K 80 (M_codeA (M_cd v))), ((q 6), aI K 80 (M_codeB (M_cd v))), ((q 7), aI K 80 (M_codeC (M_cd v))), ((q 8), aI K 80 (M_codeName (M_cd v))), ((q 9), aI K 80 (M_codePlace (M_cd v))), ((q 10), aI K 80 (M_codeTo (M_cd v))), ((q 11), aI K 280 (M_labelName (M_cd v))), ((q 12), aI K 280 (M_labelAt (M_cd v))), ((q 13), aI K 64 (M_data (M_cd v))), ((q 14), aZ K 32 (M_hasData (M_rd v))), ((q 15), aI K 314 (M_s (M_rn v))), ((q 16), aI K 314 (M_aside (M_ex v))), ((q 17), aI K 314 (M_further (M_ex v))), ((q 18), aI K 314 (M_image (M_im v))), ((q 19), aI K 3 (M_sizeNow (M_rn v))), ((q 20), aI K 8 (M_aloneRegister (M_al v))), ((q 21), aI K 4 (M_aloneReal (M_al v))), ((q 22), aI K 32 (M_aloneMemory (M_al v))), ((q 23), aI K 999 (M_aloneOutput (M_al v)))]) (wc := []) (nn := 0) cx [.int a3, .int (1 : Int32)] [] (m_M_isBit l D K a3 (1 : Int32) hc45) rfl ys_X10_isBit wd_1707 ⟨rfl, rfl⟩ (by decide) (fr_k (fr_k (fr_k (fr_k (fr_k (fr_k (fr_k (fr_k (fr_k (fr_k (fr_k (fr_k (fr_k (fr_k (fr_k (fr_k (fr_k (fr_k (fr_k (fr_k (fr_k (fr_k (fr_k (fr_k (fr_n))))))))))))))))))))))))) rfl (by decide) rfl (Nat.le_of_ble_eq_true rfl) dX10_flippedAt_222 ?_
                        refine r_if_eq (pc := 225) (tgt := 235) cx dX10_flippedAt_225 (by decide) (fun h46 => ?_) (fun h46 => ?_)
                        · replace hf := ifp h46 hf
                          refine r_iconst (pc := 235) cx dX10_flippedAt_235 ic_m1 ?_
                          have hi := inj1 hf
                          exact r_iret (pc := 236) cx hi rfl dX10_flippedAt_236
                        · replace hf := ifn h46 hf
                          refine r_bipush (pc := 228) cx dX10_flippedAt_228 bp_104 ?_
                          refine r_iload_n (pc := 230) cx dX10_flippedAt_230 2 rfl ?_
                          refine r_iadd (pc := 231) cx dX10_flippedAt_231 ?_
                          refine r_goto (pc := 232) (tgt := 236) cx dX10_flippedAt_232 (by decide) ?_
                          have hi := inj1 hf
                          exact r_iret (pc := 236) cx hi rfl dX10_flippedAt_236
                    · replace hf := ifn h42 hf
                      by_cases h47 : a1 = (9 : Int32)
                      · replace hf := ifp h47 hf
                        refine r_tin (pc := 7) (tgt := 237) cx (9 : Int32) h47 dX10_flippedAt_7 (by decide) (by decide) rfl (by decide) ?_
                        refine r_iload_n (pc := 237) cx dX10_flippedAt_237 2 rfl ?_
                        refine r_aload_n (pc := 238) cx dX10_flippedAt_238 0 rfl ?_
                        refine r_get (pc := 239) cx cf_X10 0 26 rfl (by decide) rfl wd_1342 dX10_flippedAt_239 ?_
                        refine r_bipush (pc := 242) cx dX10_flippedAt_242 bp_112 ?_
                        refine r_iald (pc := 244) cx 15 rfl (by decide) dX10_flippedAt_244 ?_
                        refine r_icmp_ge (pc := 245) (tgt := 264) cx dX10_flippedAt_245 (by decide) (fun h48 => ?_) (fun h48 => ?_)
                        · replace hf := ifp h48 hf
                          refine r_iconst (pc := 264) cx dX10_flippedAt_264 ic_m1 ?_
                          have hi := inj1 hf
                          exact r_iret (pc := 265) cx hi rfl dX10_flippedAt_265
                        · replace hf := ifn h48 hf
                          refine r_iload_n (pc := 248) cx dX10_flippedAt_248 3 rfl ?_
                          refine r_bipush (pc := 249) cx dX10_flippedAt_249 bp_6 ?_
                          replace hf := bd_of hf
                          obtain ⟨r49, hc50, hf⟩ := hf
                          refine r_Si (pc := 251) (ws' := [((q 0), ob 9 [.int (M_thrown v), .ref (q 1), .int (M_taped (M_tp v)), .ref (q 2), .ref (q 3), .ref (q 4), .ref (q 5), .ref (q 6), .ref (q 7), .ref (q 8), .ref (q 9), .ref (q 10), .ref (q 11), .ref (q 12), .ref (q 13), .ref (q 14), .int (M_lines (M_rd v)), .int (M_size (M_rd v)), .int (M_at (M_rd v)), .int (M_place (M_rd v)), .int (M_sort (M_rd v)), .int (M_value (M_rd v)), .int (M_fault (M_rd v)), .int (M_faultPlace (M_rd v)), .int (M_lastFault (M_lf v)), .int (M_lastPlace (M_lf v)), .ref (q 15), .ref (q 16), .ref (q 17), .ref (q 18), .int (M_hasImage (M_im v)), .int (M_spanNow (M_rn v)), .ref (q 19), .int (M_placeThen (M_rn v)), .int (M_alonePlace (M_al v)), .int (M_aloneSteps (M_al v)), .int (M_aloneOut (M_al v)), .ref (q 20), .ref (q 21), .ref (q 22), .ref (q 23), .int (M_shotAlarm (M_ex v)), .int (M_drawn (M_ex v))]), ((q 1), aI K 700 (M_tape (M_tp v))), ((q 2), aI K 20 (M_number (M_cd v))), ((q 3), aZ K 5 (M_isTold (M_rd v))), ((q 4), aI K 80 (M_codeSort (M_cd v))), ((q 5), aI K 80 (M_codeA (M_cd v))), ((q 6), aI K 80 (M_codeB (M_cd v))), ((q 7), aI K 80 (M_codeC (M_cd v))), ((q 8), aI K 80 (M_codeName (M_cd v))), ((q 9), aI K 80 (M_codePlace (M_cd v))), ((q 10), aI K 80 (M_codeTo (M_cd v))), ((q 11), aI K 280 (M_labelName (M_cd v))), ((q 12), aI K 280 (M_labelAt (M_cd v))), ((q 13), aI K 64 (M_data (M_cd v))), ((q 14), aZ K 32 (M_hasData (M_rd v))), ((q 15), aI K 314 (M_s (M_rn v))), ((q 16), aI K 314 (M_aside (M_ex v))), ((q 17), aI K 314 (M_further (M_ex v))), ((q 18), aI K 314 (M_image (M_im v))), ((q 19), aI K 3 (M_sizeNow (M_rn v))), ((q 20), aI K 8 (M_aloneRegister (M_al v))), ((q 21), aI K 4 (M_aloneReal (M_al v))), ((q 22), aI K 32 (M_aloneMemory (M_al v))), ((q 23), aI K 999 (M_aloneOutput (M_al v)))]) (wc := []) (nn := 0) cx [.int a3, .int (6 : Int32)] [] (m_M_isBit l D K a3 (6 : Int32) hc50) rfl ys_X10_isBit wd_1707 ⟨rfl, rfl⟩ (by decide) (fr_k (fr_k (fr_k (fr_k (fr_k (fr_k (fr_k (fr_k (fr_k (fr_k (fr_k (fr_k (fr_k (fr_k (fr_k (fr_k (fr_k (fr_k (fr_k (fr_k (fr_k (fr_k (fr_k (fr_k (fr_n))))))))))))))))))))))))) rfl (by decide) rfl (Nat.le_of_ble_eq_true rfl) dX10_flippedAt_251 ?_
                          refine r_if_eq (pc := 254) (tgt := 264) cx dX10_flippedAt_254 (by decide) (fun h51 => ?_) (fun h51 => ?_)
                          · replace hf := ifp h51 hf
                            refine r_iconst (pc := 264) cx dX10_flippedAt_264 ic_m1 ?_
                            have hi := inj1 hf
                            exact r_iret (pc := 265) cx hi rfl dX10_flippedAt_265
                          · replace hf := ifn h51 hf
                            refine r_bipush (pc := 257) cx dX10_flippedAt_257 bp_114 ?_
                            refine r_iload_n (pc := 259) cx dX10_flippedAt_259 2 rfl ?_
                            refine r_iadd (pc := 260) cx dX10_flippedAt_260 ?_
                            refine r_goto (pc := 261) (tgt := 265) cx dX10_flippedAt_261 (by decide) ?_
                            have hi := inj1 hf
                            exact r_iret (pc := 265) cx hi rfl dX10_flippedAt_265
                      · replace hf := ifn h47 hf
                        by_cases h52 : a1 = (10 : Int32)
                        · replace hf := ifp h52 hf
                          refine r_tin (pc := 7) (tgt := 266) cx (10 : Int32) h52 dX10_flippedAt_7 (by decide) (by decide) rfl (by decide) ?_
                          refine r_iload_n (pc := 266) cx dX10_flippedAt_266 2 rfl ?_
                          refine r_aload_n (pc := 267) cx dX10_flippedAt_267 0 rfl ?_
                          refine r_get (pc := 268) cx cf_X10 0 26 rfl (by decide) rfl wd_1342 dX10_flippedAt_268 ?_
                          refine r_bipush (pc := 271) cx dX10_flippedAt_271 bp_112 ?_
                          refine r_iald (pc := 273) cx 15 rfl (by decide) dX10_flippedAt_273 ?_
                          refine r_icmp_ge (pc := 274) (tgt := 293) cx dX10_flippedAt_274 (by decide) (fun h53 => ?_) (fun h53 => ?_)
                          · replace hf := ifp h53 hf
                            refine r_iconst (pc := 293) cx dX10_flippedAt_293 ic_m1 ?_
                            have hi := inj1 hf
                            exact r_iret (pc := 294) cx hi rfl dX10_flippedAt_294
                          · replace hf := ifn h53 hf
                            refine r_iload_n (pc := 277) cx dX10_flippedAt_277 3 rfl ?_
                            refine r_bipush (pc := 278) cx dX10_flippedAt_278 bp_32 ?_
                            replace hf := bd_of hf
                            obtain ⟨r54, hc55, hf⟩ := hf
                            refine r_Si (pc := 280) (ws' := [((q 0), ob 9 [.int (M_thrown v), .ref (q 1), .int (M_taped (M_tp v)), .ref (q 2), .ref (q 3), .ref (q 4), .ref (q 5), .ref (q 6), .ref (q 7), .ref (q 8), .ref (q 9), .ref (q 10), .ref (q 11), .ref (q 12), .ref (q 13), .ref (q 14), .int (M_lines (M_rd v)), .int (M_size (M_rd v)), .int (M_at (M_rd v)), .int (M_place (M_rd v)), .int (M_sort (M_rd v)), .int (M_value (M_rd v)), .int (M_fault (M_rd v)), .int (M_faultPlace (M_rd v)), .int (M_lastFault (M_lf v)), .int (M_lastPlace (M_lf v)), .ref (q 15), .ref (q 16), .ref (q 17), .ref (q 18), .int (M_hasImage (M_im v)), .int (M_spanNow (M_rn v)), .ref (q 19), .int (M_placeThen (M_rn v)), .int (M_alonePlace (M_al v)), .int (M_aloneSteps (M_al v)), .int (M_aloneOut (M_al v)), .ref (q 20), .ref (q 21), .ref (q 22), .ref (q 23), .int (M_shotAlarm (M_ex v)), .int (M_drawn (M_ex v))]), ((q 1), aI K 700 (M_tape (M_tp v))), ((q 2), aI K 20 (M_number (M_cd v))), ((q 3), aZ K 5 (M_isTold (M_rd v))), ((q 4), aI K 80 (M_codeSort (M_cd v))), ((q 5), aI K 80 (M_codeA (M_cd v))), ((q 6), aI K 80 (M_codeB (M_cd v))), ((q 7), aI K 80 (M_codeC (M_cd v))), ((q 8), aI K 80 (M_codeName (M_cd v))), ((q 9), aI K 80 (M_codePlace (M_cd v))), ((q 10), aI K 80 (M_codeTo (M_cd v))), ((q 11), aI K 280 (M_labelName (M_cd v))), ((q 12), aI K 280 (M_labelAt (M_cd v))), ((q 13), aI K 64 (M_data (M_cd v))), ((q 14), aZ K 32 (M_hasData (M_rd v))), ((q 15), aI K 314 (M_s (M_rn v))), ((q 16), aI K 314 (M_aside (M_ex v))), ((q 17), aI K 314 (M_further (M_ex v))), ((q 18), aI K 314 (M_image (M_im v))), ((q 19), aI K 3 (M_sizeNow (M_rn v))), ((q 20), aI K 8 (M_aloneRegister (M_al v))), ((q 21), aI K 4 (M_aloneReal (M_al v))), ((q 22), aI K 32 (M_aloneMemory (M_al v))), ((q 23), aI K 999 (M_aloneOutput (M_al v)))]) (wc := []) (nn := 0) cx [.int a3, .int (32 : Int32)] [] (m_M_isBit l D K a3 (32 : Int32) hc55) rfl ys_X10_isBit wd_1707 ⟨rfl, rfl⟩ (by decide) (fr_k (fr_k (fr_k (fr_k (fr_k (fr_k (fr_k (fr_k (fr_k (fr_k (fr_k (fr_k (fr_k (fr_k (fr_k (fr_k (fr_k (fr_k (fr_k (fr_k (fr_k (fr_k (fr_k (fr_k (fr_n))))))))))))))))))))))))) rfl (by decide) rfl (Nat.le_of_ble_eq_true rfl) dX10_flippedAt_280 ?_
                            refine r_if_eq (pc := 283) (tgt := 293) cx dX10_flippedAt_283 (by decide) (fun h56 => ?_) (fun h56 => ?_)
                            · replace hf := ifp h56 hf
                              refine r_iconst (pc := 293) cx dX10_flippedAt_293 ic_m1 ?_
                              have hi := inj1 hf
                              exact r_iret (pc := 294) cx hi rfl dX10_flippedAt_294
                            · replace hf := ifn h56 hf
                              refine r_bipush (pc := 286) cx dX10_flippedAt_286 bp_122 ?_
                              refine r_iload_n (pc := 288) cx dX10_flippedAt_288 2 rfl ?_
                              refine r_iadd (pc := 289) cx dX10_flippedAt_289 ?_
                              refine r_goto (pc := 290) (tgt := 294) cx dX10_flippedAt_290 (by decide) ?_
                              have hi := inj1 hf
                              exact r_iret (pc := 294) cx hi rfl dX10_flippedAt_294
                        · replace hf := ifn h52 hf
                          by_cases h57 : a1 = (11 : Int32)
                          · replace hf := ifp h57 hf
                            refine r_tin (pc := 7) (tgt := 295) cx (11 : Int32) h57 dX10_flippedAt_7 (by decide) (by decide) rfl (by decide) ?_
                            refine r_iload_n (pc := 295) cx dX10_flippedAt_295 2 rfl ?_
                            refine r_aload_n (pc := 296) cx dX10_flippedAt_296 0 rfl ?_
                            refine r_get (pc := 297) cx cf_X10 0 26 rfl (by decide) rfl wd_1342 dX10_flippedAt_297 ?_
                            refine r_bipush (pc := 300) cx dX10_flippedAt_300 bp_113 ?_
                            refine r_iald (pc := 302) cx 15 rfl (by decide) dX10_flippedAt_302 ?_
                            refine r_icmp_ge (pc := 303) (tgt := 323) cx dX10_flippedAt_303 (by decide) (fun h58 => ?_) (fun h58 => ?_)
                            · replace hf := ifp h58 hf
                              refine r_iconst (pc := 323) cx dX10_flippedAt_323 ic_m1 ?_
                              have hi := inj1 hf
                              exact r_iret (pc := 324) cx hi rfl dX10_flippedAt_324
                            · replace hf := ifn h58 hf
                              refine r_iload_n (pc := 306) cx dX10_flippedAt_306 3 rfl ?_
                              refine r_bipush (pc := 307) cx dX10_flippedAt_307 bp_6 ?_
                              replace hf := bd_of hf
                              obtain ⟨r59, hc60, hf⟩ := hf
                              refine r_Si (pc := 309) (ws' := [((q 0), ob 9 [.int (M_thrown v), .ref (q 1), .int (M_taped (M_tp v)), .ref (q 2), .ref (q 3), .ref (q 4), .ref (q 5), .ref (q 6), .ref (q 7), .ref (q 8), .ref (q 9), .ref (q 10), .ref (q 11), .ref (q 12), .ref (q 13), .ref (q 14), .int (M_lines (M_rd v)), .int (M_size (M_rd v)), .int (M_at (M_rd v)), .int (M_place (M_rd v)), .int (M_sort (M_rd v)), .int (M_value (M_rd v)), .int (M_fault (M_rd v)), .int (M_faultPlace (M_rd v)), .int (M_lastFault (M_lf v)), .int (M_lastPlace (M_lf v)), .ref (q 15), .ref (q 16), .ref (q 17), .ref (q 18), .int (M_hasImage (M_im v)), .int (M_spanNow (M_rn v)), .ref (q 19), .int (M_placeThen (M_rn v)), .int (M_alonePlace (M_al v)), .int (M_aloneSteps (M_al v)), .int (M_aloneOut (M_al v)), .ref (q 20), .ref (q 21), .ref (q 22), .ref (q 23), .int (M_shotAlarm (M_ex v)), .int (M_drawn (M_ex v))]), ((q 1), aI K 700 (M_tape (M_tp v))), ((q 2), aI K 20 (M_number (M_cd v))), ((q 3), aZ K 5 (M_isTold (M_rd v))), ((q 4), aI K 80 (M_codeSort (M_cd v))), ((q 5), aI K 80 (M_codeA (M_cd v))), ((q 6), aI K 80 (M_codeB (M_cd v))), ((q 7), aI K 80 (M_codeC (M_cd v))), ((q 8), aI K 80 (M_codeName (M_cd v))), ((q 9), aI K 80 (M_codePlace (M_cd v))), ((q 10), aI K 80 (M_codeTo (M_cd v))), ((q 11), aI K 280 (M_labelName (M_cd v))), ((q 12), aI K 280 (M_labelAt (M_cd v))), ((q 13), aI K 64 (M_data (M_cd v))), ((q 14), aZ K 32 (M_hasData (M_rd v))), ((q 15), aI K 314 (M_s (M_rn v))), ((q 16), aI K 314 (M_aside (M_ex v))), ((q 17), aI K 314 (M_further (M_ex v))), ((q 18), aI K 314 (M_image (M_im v))), ((q 19), aI K 3 (M_sizeNow (M_rn v))), ((q 20), aI K 8 (M_aloneRegister (M_al v))), ((q 21), aI K 4 (M_aloneReal (M_al v))), ((q 22), aI K 32 (M_aloneMemory (M_al v))), ((q 23), aI K 999 (M_aloneOutput (M_al v)))]) (wc := []) (nn := 0) cx [.int a3, .int (6 : Int32)] [] (m_M_isBit l D K a3 (6 : Int32) hc60) rfl ys_X10_isBit wd_1707 ⟨rfl, rfl⟩ (by decide) (fr_k (fr_k (fr_k (fr_k (fr_k (fr_k (fr_k (fr_k (fr_k (fr_k (fr_k (fr_k (fr_k (fr_k (fr_k (fr_k (fr_k (fr_k (fr_k (fr_k (fr_k (fr_k (fr_k (fr_k (fr_n))))))))))))))))))))))))) rfl (by decide) rfl (Nat.le_of_ble_eq_true rfl) dX10_flippedAt_309 ?_
                              refine r_if_eq (pc := 312) (tgt := 323) cx dX10_flippedAt_312 (by decide) (fun h61 => ?_) (fun h61 => ?_)
                              · replace hf := ifp h61 hf
                                refine r_iconst (pc := 323) cx dX10_flippedAt_323 ic_m1 ?_
                                have hi := inj1 hf
                                exact r_iret (pc := 324) cx hi rfl dX10_flippedAt_324
                              · replace hf := ifn h61 hf
                                refine r_sipush (pc := 315) cx dX10_flippedAt_315 sp_130 ?_
                                refine r_iload_n (pc := 318) cx dX10_flippedAt_318 2 rfl ?_
                                refine r_iadd (pc := 319) cx dX10_flippedAt_319 ?_
                                refine r_goto (pc := 320) (tgt := 324) cx dX10_flippedAt_320 (by decide) ?_
                                have hi := inj1 hf
                                exact r_iret (pc := 324) cx hi rfl dX10_flippedAt_324
                          · replace hf := ifn h57 hf
                            by_cases h62 : a1 = (12 : Int32)
                            · replace hf := ifp h62 hf
                              refine r_tin (pc := 7) (tgt := 325) cx (12 : Int32) h62 dX10_flippedAt_7 (by decide) (by decide) rfl (by decide) ?_
                              refine r_iload_n (pc := 325) cx dX10_flippedAt_325 2 rfl ?_
                              refine r_aload_n (pc := 326) cx dX10_flippedAt_326 0 rfl ?_
                              refine r_get (pc := 327) cx cf_X10 0 26 rfl (by decide) rfl wd_1342 dX10_flippedAt_327 ?_
                              refine r_bipush (pc := 330) cx dX10_flippedAt_330 bp_113 ?_
                              refine r_iald (pc := 332) cx 15 rfl (by decide) dX10_flippedAt_332 ?_
                              refine r_icmp_ge (pc := 333) (tgt := 353) cx dX10_flippedAt_333 (by decide) (fun h63 => ?_) (fun h63 => ?_)
                              · replace hf := ifp h63 hf
                                refine r_iconst (pc := 353) cx dX10_flippedAt_353 ic_m1 ?_
                                have hi := inj1 hf
                                exact r_iret (pc := 354) cx hi rfl dX10_flippedAt_354
                              · replace hf := ifn h63 hf
                                refine r_iload_n (pc := 336) cx dX10_flippedAt_336 3 rfl ?_
                                refine r_bipush (pc := 337) cx dX10_flippedAt_337 bp_32 ?_
                                replace hf := bd_of hf
                                obtain ⟨r64, hc65, hf⟩ := hf
                                refine r_Si (pc := 339) (ws' := [((q 0), ob 9 [.int (M_thrown v), .ref (q 1), .int (M_taped (M_tp v)), .ref (q 2), .ref (q 3), .ref (q 4), .ref (q 5), .ref (q 6), .ref (q 7), .ref (q 8), .ref (q 9), .ref (q 10), .ref (q 11), .ref (q 12), .ref (q 13), .ref (q 14), .int (M_lines (M_rd v)), .int (M_size (M_rd v)), .int (M_at (M_rd v)), .int (M_place (M_rd v)), .int (M_sort (M_rd v)), .int (M_value (M_rd v)), .int (M_fault (M_rd v)), .int (M_faultPlace (M_rd v)), .int (M_lastFault (M_lf v)), .int (M_lastPlace (M_lf v)), .ref (q 15), .ref (q 16), .ref (q 17), .ref (q 18), .int (M_hasImage (M_im v)), .int (M_spanNow (M_rn v)), .ref (q 19), .int (M_placeThen (M_rn v)), .int (M_alonePlace (M_al v)), .int (M_aloneSteps (M_al v)), .int (M_aloneOut (M_al v)), .ref (q 20), .ref (q 21), .ref (q 22), .ref (q 23), .int (M_shotAlarm (M_ex v)), .int (M_drawn (M_ex v))]), ((q 1), aI K 700 (M_tape (M_tp v))), ((q 2), aI K 20 (M_number (M_cd v))), ((q 3), aZ K 5 (M_isTold (M_rd v))), ((q 4), aI K 80 (M_codeSort (M_cd v))), ((q 5), aI K 80 (M_codeA (M_cd v))), ((q 6), aI K 80 (M_codeB (M_cd v))), ((q 7), aI K 80 (M_codeC (M_cd v))), ((q 8), aI K 80 (M_codeName (M_cd v))), ((q 9), aI K 80 (M_codePlace (M_cd v))), ((q 10), aI K 80 (M_codeTo (M_cd v))), ((q 11), aI K 280 (M_labelName (M_cd v))), ((q 12), aI K 280 (M_labelAt (M_cd v))), ((q 13), aI K 64 (M_data (M_cd v))), ((q 14), aZ K 32 (M_hasData (M_rd v))), ((q 15), aI K 314 (M_s (M_rn v))), ((q 16), aI K 314 (M_aside (M_ex v))), ((q 17), aI K 314 (M_further (M_ex v))), ((q 18), aI K 314 (M_image (M_im v))), ((q 19), aI K 3 (M_sizeNow (M_rn v))), ((q 20), aI K 8 (M_aloneRegister (M_al v))), ((q 21), aI K 4 (M_aloneReal (M_al v))), ((q 22), aI K 32 (M_aloneMemory (M_al v))), ((q 23), aI K 999 (M_aloneOutput (M_al v)))]) (wc := []) (nn := 0) cx [.int a3, .int (32 : Int32)] [] (m_M_isBit l D K a3 (32 : Int32) hc65) rfl ys_X10_isBit wd_1707 ⟨rfl, rfl⟩ (by decide) (fr_k (fr_k (fr_k (fr_k (fr_k (fr_k (fr_k (fr_k (fr_k (fr_k (fr_k (fr_k (fr_k (fr_k (fr_k (fr_k (fr_k (fr_k (fr_k (fr_k (fr_k (fr_k (fr_k (fr_k (fr_n))))))))))))))))))))))))) rfl (by decide) rfl (Nat.le_of_ble_eq_true rfl) dX10_flippedAt_339 ?_
                                refine r_if_eq (pc := 342) (tgt := 353) cx dX10_flippedAt_342 (by decide) (fun h66 => ?_) (fun h66 => ?_)
                                · replace hf := ifp h66 hf
                                  refine r_iconst (pc := 353) cx dX10_flippedAt_353 ic_m1 ?_
                                  have hi := inj1 hf
                                  exact r_iret (pc := 354) cx hi rfl dX10_flippedAt_354
                                · replace hf := ifn h66 hf
                                  refine r_sipush (pc := 345) cx dX10_flippedAt_345 sp_138 ?_
                                  refine r_iload_n (pc := 348) cx dX10_flippedAt_348 2 rfl ?_
                                  refine r_iadd (pc := 349) cx dX10_flippedAt_349 ?_
                                  refine r_goto (pc := 350) (tgt := 354) cx dX10_flippedAt_350 (by decide) ?_
                                  have hi := inj1 hf
                                  exact r_iret (pc := 354) cx hi rfl dX10_flippedAt_354
                            · replace hf := ifn h62 hf
                              refine r_tout (pc := 7) (tgt := 355) cx dX10_flippedAt_7 (by
                                have nh2 := toInt_ne h2
                                have mh2 : (0 : Int32).toInt = 0 := by decide
                                rw [mh2] at nh2
                                have nh7 := toInt_ne h7
                                have mh7 : (1 : Int32).toInt = 1 := by decide
                                rw [mh7] at nh7
                                have nh12 := toInt_ne h12
                                have mh12 : (2 : Int32).toInt = 2 := by decide
                                rw [mh12] at nh12
                                have nh17 := toInt_ne h17
                                have mh17 : (3 : Int32).toInt = 3 := by decide
                                rw [mh17] at nh17
                                have nh22 := toInt_ne h22
                                have mh22 : (4 : Int32).toInt = 4 := by decide
                                rw [mh22] at nh22
                                have nh27 := toInt_ne h27
                                have mh27 : (5 : Int32).toInt = 5 := by decide
                                rw [mh27] at nh27
                                have nh32 := toInt_ne h32
                                have mh32 : (6 : Int32).toInt = 6 := by decide
                                rw [mh32] at nh32
                                have nh37 := toInt_ne h37
                                have mh37 : (7 : Int32).toInt = 7 := by decide
                                rw [mh37] at nh37
                                have nh42 := toInt_ne h42
                                have mh42 : (8 : Int32).toInt = 8 := by decide
                                rw [mh42] at nh42
                                have nh47 := toInt_ne h47
                                have mh47 : (9 : Int32).toInt = 9 := by decide
                                rw [mh47] at nh47
                                have nh52 := toInt_ne h52
                                have mh52 : (10 : Int32).toInt = 10 := by decide
                                rw [mh52] at nh52
                                have nh57 := toInt_ne h57
                                have mh57 : (11 : Int32).toInt = 11 := by decide
                                rw [mh57] at nh57
                                have nh62 := toInt_ne h62
                                have mh62 : (12 : Int32).toInt = 12 := by decide
                                rw [mh62] at nh62
                                omega) (by decide) ?_
                              refine r_iconst (pc := 355) cx dX10_flippedAt_355 ic_m1 ?_
                              have hi := inj1 hf
                              exact r_iret (pc := 356) cx hi rfl dX10_flippedAt_356
  · replace hf := ifn h1 hf
    refine r_iconst (pc := 4) cx dX10_flippedAt_4 ic_m1 ?_
    have hi := inj1 hf
    exact r_iret (pc := 5) cx hi rfl dX10_flippedAt_5
theorem yv_X10_flippedAt : YV yX10_flippedAt cX10_flippedAt 4 (some .int) 3 := ⟨⟨by decide +kernel, by decide +kernel, by decide +kernel⟩, wd_1706, wd_102, wd_1705, wd_75⟩
abbrev rm_M_flips : Room := { frames := 2, cells := 0, slots := 0, locals := 44 }
set_option maxRecDepth 100000 in
set_option maxHeartbeats 4000000 in
theorem m_M_flips (l : Launch) (D : va_G) (K : Nat → ClassId) (q : Nat → Nat) (v : T_M) (a1 : Int32) (a2 : Int32) (a3 : Int32) {r_ : Int32} {o_v : T_M} (hf : f_M_flips v a1 a2 a3 = some (r_, o_v)) : MI l yX10_flips cX10_flips 5 (some .boolean) rm_M_flips D K [.ref (q 0), .int a1, .int a2, .int a3] (cl_M K q v) r_ (cl_M K q o_v) := by
  refine MI_of (loc0 := [(0, .ref (q 0)), (1, .int a1), (2, .int a2), (3, .int a3)]) (by decide +kernel) rfl (Nat.le_of_ble_eq_true rfl) ?_
  intro p e s m args below meth c A cx
  unfold f_M_flips at hf
  refine r_ws (ws' := [((q 0), ob 9 [.int (M_thrown v), .ref (q 1), .int (M_taped (M_tp v)), .ref (q 2), .ref (q 3), .ref (q 4), .ref (q 5), .ref (q 6), .ref (q 7), .ref (q 8), .ref (q 9), .ref (q 10), .ref (q 11), .ref (q 12), .ref (q 13), .ref (q 14), .int (M_lines (M_rd v)), .int (M_size (M_rd v)), .int (M_at (M_rd v)), .int (M_place (M_rd v)), .int (M_sort (M_rd v)), .int (M_value (M_rd v)), .int (M_fault (M_rd v)), .int (M_faultPlace (M_rd v)), .int (M_lastFault (M_lf v)), .int (M_lastPlace (M_lf v)), .ref (q 15), .ref (q 16), .ref (q 17), .ref (q 18), .int (M_hasImage (M_im v)), .int (M_spanNow (M_rn v)), .ref (q 19), .int (M_placeThen (M_rn v)), .int (M_alonePlace (M_al v)), .int (M_aloneSteps (M_al v)), .int (M_aloneOut (M_al v)), .ref (q 20), .ref (q 21), .ref (q 22), .ref (q 23), .int (M_shotAlarm (M_ex v)), .int (M_drawn (M_ex v))]), ((q 1), aI K 700 (M_tape (M_tp v))), ((q 2), aI K 20 (M_number (M_cd v))), ((q 3), aZ K 5 (M_isTold (M_rd v))), ((q 4), aI K 80 (M_codeSort (M_cd v))), ((q 5), aI K 80 (M_codeA (M_cd v))), ((q 6), aI K 80 (M_codeB (M_cd v))), ((q 7), aI K 80 (M_codeC (M_cd v))), ((q 8), aI K 80 (M_codeName (M_cd v))), ((q 9), aI K 80 (M_codePlace (M_cd v))), ((q 10), aI K 80 (M_codeTo (M_cd v))), ((q 11), aI K 280 (M_labelName (M_cd v))), ((q 12), aI K 280 (M_labelAt (M_cd v))), ((q 13), aI K 64 (M_data (M_cd v))), ((q 14), aZ K 32 (M_hasData (M_rd v))), ((q 15), aI K 314 (M_s (M_rn v))), ((q 16), aI K 314 (M_aside (M_ex v))), ((q 17), aI K 314 (M_further (M_ex v))), ((q 18), aI K 314 (M_image (M_im v))), ((q 19), aI K 3 (M_sizeNow (M_rn v))), ((q 20), aI K 8 (M_aloneRegister (M_al v))), ((q 21), aI K 4 (M_aloneReal (M_al v))), ((q 22), aI K 32 (M_aloneMemory (M_al v))), ((q 23), aI K 999 (M_aloneOutput (M_al v)))]) rfl ?_
  refine r_aload_n (pc := 0) cx dX10_flips_0 0 rfl ?_
  refine r_iload_n (pc := 1) cx dX10_flips_1 1 rfl ?_
  refine r_iload_n (pc := 2) cx dX10_flips_2 2 rfl ?_
  refine r_iload_n (pc := 3) cx dX10_flips_3 3 rfl ?_
  replace hf := bd_of hf
  obtain ⟨r1, hc2, hf⟩ := hf
  refine r_Vi (pc := 4) (ws' := [((q 0), ob 9 [.int (M_thrown v), .ref (q 1), .int (M_taped (M_tp v)), .ref (q 2), .ref (q 3), .ref (q 4), .ref (q 5), .ref (q 6), .ref (q 7), .ref (q 8), .ref (q 9), .ref (q 10), .ref (q 11), .ref (q 12), .ref (q 13), .ref (q 14), .int (M_lines (M_rd v)), .int (M_size (M_rd v)), .int (M_at (M_rd v)), .int (M_place (M_rd v)), .int (M_sort (M_rd v)), .int (M_value (M_rd v)), .int (M_fault (M_rd v)), .int (M_faultPlace (M_rd v)), .int (M_lastFault (M_lf v)), .int (M_lastPlace (M_lf v)), .ref (q 15), .ref (q 16), .ref (q 17), .ref (q 18), .int (M_hasImage (M_im v)), .int (M_spanNow (M_rn v)), .ref (q 19), .int (M_placeThen (M_rn v)), .int (M_alonePlace (M_al v)), .int (M_aloneSteps (M_al v)), .int (M_aloneOut (M_al v)), .ref (q 20), .ref (q 21), .ref (q 22), .ref (q 23), .int (M_shotAlarm (M_ex v)), .int (M_drawn (M_ex v))]), ((q 1), aI K 700 (M_tape (M_tp v))), ((q 2), aI K 20 (M_number (M_cd v))), ((q 3), aZ K 5 (M_isTold (M_rd v))), ((q 4), aI K 80 (M_codeSort (M_cd v))), ((q 5), aI K 80 (M_codeA (M_cd v))), ((q 6), aI K 80 (M_codeB (M_cd v))), ((q 7), aI K 80 (M_codeC (M_cd v))), ((q 8), aI K 80 (M_codeName (M_cd v))), ((q 9), aI K 80 (M_codePlace (M_cd v))), ((q 10), aI K 80 (M_codeTo (M_cd v))), ((q 11), aI K 280 (M_labelName (M_cd v))), ((q 12), aI K 280 (M_labelAt (M_cd v))), ((q 13), aI K 64 (M_data (M_cd v))), ((q 14), aZ K 32 (M_hasData (M_rd v))), ((q 15), aI K 314 (M_s (M_rn v))), ((q 16), aI K 314 (M_aside (M_ex v))), ((q 17), aI K 314 (M_further (M_ex v))), ((q 18), aI K 314 (M_image (M_im v))), ((q 19), aI K 3 (M_sizeNow (M_rn v))), ((q 20), aI K 8 (M_aloneRegister (M_al v))), ((q 21), aI K 4 (M_aloneReal (M_al v))), ((q 22), aI K 32 (M_aloneMemory (M_al v))), ((q 23), aI K 999 (M_aloneOutput (M_al v)))]) (wc := [((q 0), ob 9 [.int (M_thrown v), .ref (q 1), .int (M_taped (M_tp v)), .ref (q 2), .ref (q 3), .ref (q 4), .ref (q 5), .ref (q 6), .ref (q 7), .ref (q 8), .ref (q 9), .ref (q 10), .ref (q 11), .ref (q 12), .ref (q 13), .ref (q 14), .int (M_lines (M_rd v)), .int (M_size (M_rd v)), .int (M_at (M_rd v)), .int (M_place (M_rd v)), .int (M_sort (M_rd v)), .int (M_value (M_rd v)), .int (M_fault (M_rd v)), .int (M_faultPlace (M_rd v)), .int (M_lastFault (M_lf v)), .int (M_lastPlace (M_lf v)), .ref (q 15), .ref (q 16), .ref (q 17), .ref (q 18), .int (M_hasImage (M_im v)), .int (M_spanNow (M_rn v)), .ref (q 19), .int (M_placeThen (M_rn v)), .int (M_alonePlace (M_al v)), .int (M_aloneSteps (M_al v)), .int (M_aloneOut (M_al v)), .ref (q 20), .ref (q 21), .ref (q 22), .ref (q 23), .int (M_shotAlarm (M_ex v)), .int (M_drawn (M_ex v))]), ((q 1), aI K 700 (M_tape (M_tp v))), ((q 2), aI K 20 (M_number (M_cd v))), ((q 3), aZ K 5 (M_isTold (M_rd v))), ((q 4), aI K 80 (M_codeSort (M_cd v))), ((q 5), aI K 80 (M_codeA (M_cd v))), ((q 6), aI K 80 (M_codeB (M_cd v))), ((q 7), aI K 80 (M_codeC (M_cd v))), ((q 8), aI K 80 (M_codeName (M_cd v))), ((q 9), aI K 80 (M_codePlace (M_cd v))), ((q 10), aI K 80 (M_codeTo (M_cd v))), ((q 11), aI K 280 (M_labelName (M_cd v))), ((q 12), aI K 280 (M_labelAt (M_cd v))), ((q 13), aI K 64 (M_data (M_cd v))), ((q 14), aZ K 32 (M_hasData (M_rd v))), ((q 15), aI K 314 (M_s (M_rn v))), ((q 16), aI K 314 (M_aside (M_ex v))), ((q 17), aI K 314 (M_further (M_ex v))), ((q 18), aI K 314 (M_image (M_im v))), ((q 19), aI K 3 (M_sizeNow (M_rn v))), ((q 20), aI K 8 (M_aloneRegister (M_al v))), ((q 21), aI K 4 (M_aloneReal (M_al v))), ((q 22), aI K 32 (M_aloneMemory (M_al v))), ((q 23), aI K 999 (M_aloneOutput (M_al v)))]) (nn := 24) cx [.int a1, .int a2, .int a3] [] (m_M_flippedAt l D K q v a1 a2 a3 hc2) rfl yv_X10_flippedAt wd_1703 ⟨rfl, rfl⟩ (by decide) (fr_s (j := 0) rfl rfl rfl (fr_s (j := 1) rfl rfl rfl (fr_s (j := 2) rfl rfl rfl (fr_s (j := 3) rfl rfl rfl (fr_s (j := 4) rfl rfl rfl (fr_s (j := 5) rfl rfl rfl (fr_s (j := 6) rfl rfl rfl (fr_s (j := 7) rfl rfl rfl (fr_s (j := 8) rfl rfl rfl (fr_s (j := 9) rfl rfl rfl (fr_s (j := 10) rfl rfl rfl (fr_s (j := 11) rfl rfl rfl (fr_s (j := 12) rfl rfl rfl (fr_s (j := 13) rfl rfl rfl (fr_s (j := 14) rfl rfl rfl (fr_s (j := 15) rfl rfl rfl (fr_s (j := 16) rfl rfl rfl (fr_s (j := 17) rfl rfl rfl (fr_s (j := 18) rfl rfl rfl (fr_s (j := 19) rfl rfl rfl (fr_s (j := 20) rfl rfl rfl (fr_s (j := 21) rfl rfl rfl (fr_s (j := 22) rfl rfl rfl (fr_s (j := 23) rfl rfl rfl (fr_n))))))))))))))))))))))))) rfl (by decide) 0 rfl rfl rfl (Nat.le_of_ble_eq_true rfl) dX10_flips_4 ?_
  refine r_istore (pc := 7) (loc' := [(4, .int r1), (0, .ref (q 0)), (1, .int a1), (2, .int a2), (3, .int a3)]) cx dX10_flips_7 (by decide) rfl ?_
  refine r_iload (pc := 9) cx dX10_flips_9 0 rfl ?_
  refine r_iconst (pc := 11) cx dX10_flips_11 ic_m1 ?_
  refine r_icmp_ne (pc := 12) (tgt := 17) cx dX10_flips_12 (by decide) (fun h3 => ?_) (fun h3 => ?_)
  · replace hf := ifn h3 hf
    refine r_aload_n (pc := 17) cx dX10_flips_17 1 rfl ?_
    refine r_get (pc := 18) cx cf_X10 0 26 rfl (by decide) rfl wd_1342 dX10_flips_18 ?_
    refine r_iload (pc := 21) cx dX10_flips_21 0 rfl ?_
    refine r_dup2 (pc := 23) cx dX10_flips_23 rfl rfl ?_
    replace hf := chk_of hf
    obtain ⟨h4, hf⟩ := hf
    refine r_iald (pc := 24) cx 15 rfl h4 dX10_flips_24 ?_
    refine r_iconst (pc := 25) cx dX10_flips_25 ic_1 ?_
    refine r_iload_n (pc := 26) cx dX10_flips_26 4 rfl ?_
    refine r_ishl (pc := 27) cx dX10_flips_27 ?_
    refine r_ixor (pc := 28) cx dX10_flips_28 ?_
    replace hf := nm_of hf
    obtain ⟨x5, ex5, hf⟩ := hf
    refine r_nm ex5 ?_
    replace hf := chk_of hf
    obtain ⟨h6, hf⟩ := hf
    replace hf := nm_of hf
    obtain ⟨f7, ef7, hf⟩ := hf
    refine r_iast (pc := 29) (ws' := [((q 0), ob 9 [.int (M_thrown v), .ref (q 1), .int (M_taped (M_tp v)), .ref (q 2), .ref (q 3), .ref (q 4), .ref (q 5), .ref (q 6), .ref (q 7), .ref (q 8), .ref (q 9), .ref (q 10), .ref (q 11), .ref (q 12), .ref (q 13), .ref (q 14), .int (M_lines (M_rd v)), .int (M_size (M_rd v)), .int (M_at (M_rd v)), .int (M_place (M_rd v)), .int (M_sort (M_rd v)), .int (M_value (M_rd v)), .int (M_fault (M_rd v)), .int (M_faultPlace (M_rd v)), .int (M_lastFault (M_lf v)), .int (M_lastPlace (M_lf v)), .ref (q 15), .ref (q 16), .ref (q 17), .ref (q 18), .int (M_hasImage (M_im v)), .int (M_spanNow (M_rn v)), .ref (q 19), .int (M_placeThen (M_rn v)), .int (M_alonePlace (M_al v)), .int (M_aloneSteps (M_al v)), .int (M_aloneOut (M_al v)), .ref (q 20), .ref (q 21), .ref (q 22), .ref (q 23), .int (M_shotAlarm (M_ex v)), .int (M_drawn (M_ex v))]), ((q 1), aI K 700 (M_tape (M_tp v))), ((q 2), aI K 20 (M_number (M_cd v))), ((q 3), aZ K 5 (M_isTold (M_rd v))), ((q 4), aI K 80 (M_codeSort (M_cd v))), ((q 5), aI K 80 (M_codeA (M_cd v))), ((q 6), aI K 80 (M_codeB (M_cd v))), ((q 7), aI K 80 (M_codeC (M_cd v))), ((q 8), aI K 80 (M_codeName (M_cd v))), ((q 9), aI K 80 (M_codePlace (M_cd v))), ((q 10), aI K 80 (M_codeTo (M_cd v))), ((q 11), aI K 280 (M_labelName (M_cd v))), ((q 12), aI K 280 (M_labelAt (M_cd v))), ((q 13), aI K 64 (M_data (M_cd v))), ((q 14), aZ K 32 (M_hasData (M_rd v))), ((q 15), aI K 314 f7), ((q 16), aI K 314 (M_aside (M_ex v))), ((q 17), aI K 314 (M_further (M_ex v))), ((q 18), aI K 314 (M_image (M_im v))), ((q 19), aI K 3 (M_sizeNow (M_rn v))), ((q 20), aI K 8 (M_aloneRegister (M_al v))), ((q 21), aI K 4 (M_aloneReal (M_al v))), ((q 22), aI K 32 (M_aloneMemory (M_al v))), ((q 23), aI K 999 (M_aloneOutput (M_al v)))]) cx 15 rfl h6 dX10_flips_29 ef7 rfl ?_
    refine r_aload_n (pc := 30) cx dX10_flips_30 1 rfl ?_
    replace hf := bd_of hf
    obtain ⟨v8, hc9, hf⟩ := hf
    refine r_Vv (pc := 31) (ws' := [((q 0), ob 9 [.int (M_thrown v8), .ref (q 1), .int (M_taped (M_tp v8)), .ref (q 2), .ref (q 3), .ref (q 4), .ref (q 5), .ref (q 6), .ref (q 7), .ref (q 8), .ref (q 9), .ref (q 10), .ref (q 11), .ref (q 12), .ref (q 13), .ref (q 14), .int (M_lines (M_rd v8)), .int (M_size (M_rd v8)), .int (M_at (M_rd v8)), .int (M_place (M_rd v8)), .int (M_sort (M_rd v8)), .int (M_value (M_rd v8)), .int (M_fault (M_rd v8)), .int (M_faultPlace (M_rd v8)), .int (M_lastFault (M_lf v8)), .int (M_lastPlace (M_lf v8)), .ref (q 15), .ref (q 16), .ref (q 17), .ref (q 18), .int (M_hasImage (M_im v8)), .int (M_spanNow (M_rn v8)), .ref (q 19), .int (M_placeThen (M_rn v8)), .int (M_alonePlace (M_al v8)), .int (M_aloneSteps (M_al v8)), .int (M_aloneOut (M_al v8)), .ref (q 20), .ref (q 21), .ref (q 22), .ref (q 23), .int (M_shotAlarm (M_ex v8)), .int (M_drawn (M_ex v8))]), ((q 1), aI K 700 (M_tape (M_tp v8))), ((q 2), aI K 20 (M_number (M_cd v8))), ((q 3), aZ K 5 (M_isTold (M_rd v8))), ((q 4), aI K 80 (M_codeSort (M_cd v8))), ((q 5), aI K 80 (M_codeA (M_cd v8))), ((q 6), aI K 80 (M_codeB (M_cd v8))), ((q 7), aI K 80 (M_codeC (M_cd v8))), ((q 8), aI K 80 (M_codeName (M_cd v8))), ((q 9), aI K 80 (M_codePlace (M_cd v8))), ((q 10), aI K 80 (M_codeTo (M_cd v8))), ((q 11), aI K 280 (M_labelName (M_cd v8))), ((q 12), aI K 280 (M_labelAt (M_cd v8))), ((q 13), aI K 64 (M_data (M_cd v8))), ((q 14), aZ K 32 (M_hasData (M_rd v8))), ((q 15), aI K 314 (M_s (M_rn v8))), ((q 16), aI K 314 (M_aside (M_ex v8))), ((q 17), aI K 314 (M_further (M_ex v8))), ((q 18), aI K 314 (M_image (M_im v8))), ((q 19), aI K 3 (M_sizeNow (M_rn v8))), ((q 20), aI K 8 (M_aloneRegister (M_al v8))), ((q 21), aI K 4 (M_aloneReal (M_al v8))), ((q 22), aI K 32 (M_aloneMemory (M_al v8))), ((q 23), aI K 999 (M_aloneOutput (M_al v8)))]) (wc := [((q 0), ob 9 [.int (M_thrown v), .ref (q 1), .int (M_taped (M_tp v)), .ref (q 2), .ref (q 3), .ref (q 4), .ref (q 5), .ref (q 6), .ref (q 7), .ref (q 8), .ref (q 9), .ref (q 10), .ref (q 11), .ref (q 12), .ref (q 13), .ref (q 14), .int (M_lines (M_rd v)), .int (M_size (M_rd v)), .int (M_at (M_rd v)), .int (M_place (M_rd v)), .int (M_sort (M_rd v)), .int (M_value (M_rd v)), .int (M_fault (M_rd v)), .int (M_faultPlace (M_rd v)), .int (M_lastFault (M_lf v)), .int (M_lastPlace (M_lf v)), .ref (q 15), .ref (q 16), .ref (q 17), .ref (q 18), .int (M_hasImage (M_im v)), .int (M_spanNow (M_rn v)), .ref (q 19), .int (M_placeThen (M_rn v)), .int (M_alonePlace (M_al v)), .int (M_aloneSteps (M_al v)), .int (M_aloneOut (M_al v)), .ref (q 20), .ref (q 21), .ref (q 22), .ref (q 23), .int (M_shotAlarm (M_ex v)), .int (M_drawn (M_ex v))]), ((q 1), aI K 700 (M_tape (M_tp v))), ((q 2), aI K 20 (M_number (M_cd v))), ((q 3), aZ K 5 (M_isTold (M_rd v))), ((q 4), aI K 80 (M_codeSort (M_cd v))), ((q 5), aI K 80 (M_codeA (M_cd v))), ((q 6), aI K 80 (M_codeB (M_cd v))), ((q 7), aI K 80 (M_codeC (M_cd v))), ((q 8), aI K 80 (M_codeName (M_cd v))), ((q 9), aI K 80 (M_codePlace (M_cd v))), ((q 10), aI K 80 (M_codeTo (M_cd v))), ((q 11), aI K 280 (M_labelName (M_cd v))), ((q 12), aI K 280 (M_labelAt (M_cd v))), ((q 13), aI K 64 (M_data (M_cd v))), ((q 14), aZ K 32 (M_hasData (M_rd v))), ((q 15), aI K 314 f7), ((q 16), aI K 314 (M_aside (M_ex v))), ((q 17), aI K 314 (M_further (M_ex v))), ((q 18), aI K 314 (M_image (M_im v))), ((q 19), aI K 3 (M_sizeNow (M_rn v))), ((q 20), aI K 8 (M_aloneRegister (M_al v))), ((q 21), aI K 4 (M_aloneReal (M_al v))), ((q 22), aI K 32 (M_aloneMemory (M_al v))), ((q 23), aI K 999 (M_aloneOutput (M_al v)))]) (nn := 24) cx [] [] (m_M_sticks l D K q ((M_tp v), (M_rd v), (M_lf v), (M_cd v), (f7, (M_spanNow (M_rn v)), (M_sizeNow (M_rn v)), (M_placeThen (M_rn v))), (M_ex v), (M_im v), (M_al v), (M_thrown v)) hc9) (by (try simp only [cl_M, M_tape_mk, M_taped_mk, M_tp_mk, M_lines_mk, M_size_mk, M_at_mk, M_place_mk, M_sort_mk, M_value_mk, M_fault_mk, M_faultPlace_mk, M_isTold_mk, M_hasData_mk, M_rd_mk, M_lastFault_mk, M_lastPlace_mk, M_lf_mk, M_number_mk, M_codeSort_mk, M_codeA_mk, M_codeB_mk, M_codeC_mk, M_codeName_mk, M_codePlace_mk, M_codeTo_mk, M_labelName_mk, M_labelAt_mk, M_data_mk, M_cd_mk, M_s_mk, M_spanNow_mk, M_sizeNow_mk, M_placeThen_mk, M_rn_mk, M_aside_mk, M_further_mk, M_shotAlarm_mk, M_drawn_mk, M_ex_mk, M_image_mk, M_hasImage_mk, M_im_mk, M_alonePlace_mk, M_aloneSteps_mk, M_aloneOut_mk, M_aloneRegister_mk, M_aloneReal_mk, M_aloneMemory_mk, M_aloneOutput_mk, M_al_mk, M_thrown_mk, List.cons_append, List.nil_append, List.append_nil]) <;> rfl) yv_X10_sticks wd_1667 ⟨rfl, rfl⟩ (by decide) (fr_s (j := 0) rfl rfl rfl (fr_s (j := 1) rfl rfl rfl (fr_s (j := 2) rfl rfl rfl (fr_s (j := 3) rfl rfl rfl (fr_s (j := 4) rfl rfl rfl (fr_s (j := 5) rfl rfl rfl (fr_s (j := 6) rfl rfl rfl (fr_s (j := 7) rfl rfl rfl (fr_s (j := 8) rfl rfl rfl (fr_s (j := 9) rfl rfl rfl (fr_s (j := 10) rfl rfl rfl (fr_s (j := 11) rfl rfl rfl (fr_s (j := 12) rfl rfl rfl (fr_s (j := 13) rfl rfl rfl (fr_s (j := 14) rfl rfl rfl (fr_s (j := 15) rfl rfl rfl (fr_s (j := 16) rfl rfl rfl (fr_s (j := 17) rfl rfl rfl (fr_s (j := 18) rfl rfl rfl (fr_s (j := 19) rfl rfl rfl (fr_s (j := 20) rfl rfl rfl (fr_s (j := 21) rfl rfl rfl (fr_s (j := 22) rfl rfl rfl (fr_s (j := 23) rfl rfl rfl (fr_n))))))))))))))))))))))))) rfl (by decide) 0 rfl rfl rfl (Nat.le_of_ble_eq_true rfl) dX10_flips_31 ?_
    refine r_iconst (pc := 34) cx dX10_flips_34 ic_1 ?_
    have hi := inj2 hf
    exact r_zret (pc := 35) cx (Or.inr rfl) hi.1 (by rw [← hi.2]; rfl) dX10_flips_35
  · replace hf := ifp h3 hf
    refine r_iconst (pc := 15) cx dX10_flips_15 ic_0 ?_
    have hi := inj2 hf
    exact r_zret (pc := 16) cx (Or.inl rfl) hi.1 (by rw [← hi.2]; rfl) dX10_flips_16
theorem yv_X10_flips : YV yX10_flips cX10_flips 5 (some .boolean) 3 := ⟨⟨by decide +kernel, by decide +kernel, by decide +kernel⟩, wd_1702, wd_102, wd_1701, wd_74⟩
