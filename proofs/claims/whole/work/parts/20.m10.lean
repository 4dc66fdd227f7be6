abbrev rm_M_trailerLoads : Room := { frames := 1, cells := 0, slots := 0, locals := 22 }
set_option maxRecDepth 100000 in
set_option maxHeartbeats 4000000 in
theorem m_M_trailerLoads (l : Launch) (D : va_G) (K : Nat → ClassId) (q : Nat → Nat) (v : T_M) (a1 : Int32) {r_ : Int32} {o_v : T_M} (hf : f_M_trailerLoads v a1 = some (r_, o_v)) : MI l yX10_trailerLoads cX10_trailerLoads 5 (some .int) rm_M_trailerLoads D K [.ref (q 0), .int a1] (cl_M K q v) r_ (cl_M K q o_v) := by
  refine MI_of (loc0 := [(0, .ref (q 0)), (1, .int a1)]) (by decide +kernel) rfl (Nat.le_of_ble_eq_true rfl) ?_
  intro p e s m args below meth c A cx
  unfold f_M_trailerLoads at hf
  refine r_ws (ws' := [((q 0), ob 9 [.int (M_thrown v), .ref (q 1), .int (M_taped (M_tp v)), .ref (q 2), .ref (q 3), .ref (q 4), .ref (q 5), .ref (q 6), .ref (q 7), .ref (q 8), .ref (q 9), .ref (q 10), .ref (q 11), .ref (q 12), .ref (q 13), .ref (q 14), .int (M_lines (M_rd v)), .int (M_size (M_rd v)), .int (M_at (M_rd v)), .int (M_place (M_rd v)), .int (M_sort (M_rd v)), .int (M_value (M_rd v)), .int (M_fault (M_rd v)), .int (M_faultPlace (M_rd v)), .int (M_lastFault (M_lf v)), .int (M_lastPlace (M_lf v)), .ref (q 15), .ref (q 16), .ref (q 17), .ref (q 18), .int (M_hasImage (M_im v)), .int (M_spanNow (M_rn v)), .ref (q 19), .int (M_placeThen (M_rn v)), .int (M_alonePlace (M_al v)), .int (M_aloneSteps (M_al v)), .int (M_aloneOut (M_al v)), .ref (q 20), .ref (q 21), .ref (q 22), .ref (q 23), .int (M_shotAlarm (M_ex v)), .int (M_drawn (M_ex v))]), ((q 1), aI K 700 (M_tape (M_tp v))), ((q 2), aI K 20 (M_number (M_cd v))), ((q 3), aZ K 5 (M_isTold (M_rd v))), ((q 4), aI K 80 (M_codeSort (M_cd v))), ((q 5), aI K 80 (M_codeA (M_cd v))), ((q 6), aI K 80 (M_codeB (M_cd v))), ((q 7), aI K 80 (M_codeC (M_cd v))), ((q 8), aI K 80 (M_codeName (M_cd v))), ((q 9), aI K 80 (M_codePlace (M_cd v))), ((q 10), aI K 80 (M_codeTo (M_cd v))), ((q 11), aI K 280 (M_labelName (M_cd v))), ((q 12), aI K 280 (M_labelAt (M_cd v))), ((q 13), aI K 64 (M_data (M_cd v))), ((q 14), aZ K 32 (M_hasData (M_rd v))), ((q 15), aI K 314 (M_s (M_rn v))), ((q 16), aI K 314 (M_aside (M_ex v))), ((q 17), aI K 314 (M_further (M_ex v))), ((q 18), aI K 314 (M_image (M_im v))), ((q 19), aI K 3 (M_sizeNow (M_rn v))), ((q 20), aI K 8 (M_aloneRegister (M_al v))), ((q 21), aI K 4 (M_aloneReal (M_al v))), ((q 22), aI K 32 (M_aloneMemory (M_al v))), ((q 23), aI K 999 (M_aloneOutput (M_al v)))]) rfl ?_
  refine r_aload_n (pc := 0) cx dX10_trailerLoads_0 0 rfl ?_
  refine r_get (pc := 1) cx cf_X10 0 26 rfl (by decide) rfl wd_1342 dX10_trailerLoads_1 ?_
  refine r_bipush (pc := 4) cx dX10_trailerLoads_4 bp_87 ?_
  refine r_iald (pc := 6) cx 15 rfl (by decide) dX10_trailerLoads_6 ?_
  replace hf := nm_of hf
  obtain ⟨x1, ex1, hf⟩ := hf
  refine r_nm ex1 ?_
  refine r_istore_n (pc := 7) (loc' := [(2, .int x1), (0, .ref (q 0)), (1, .int a1)]) cx dX10_trailerLoads_7 rfl (by decide) rfl ?_
  refine r_aload_n (pc := 8) cx dX10_trailerLoads_8 1 rfl ?_
  refine r_get (pc := 9) cx cf_X10 0 26 rfl (by decide) rfl wd_1342 dX10_trailerLoads_9 ?_
  refine r_bipush (pc := 12) cx dX10_trailerLoads_12 bp_95 ?_
  refine r_iald (pc := 14) cx 15 rfl (by decide) dX10_trailerLoads_14 ?_
  replace hf := nm_of hf
  obtain ⟨x2, ex2, hf⟩ := hf
  refine r_nm ex2 ?_
  refine r_istore_n (pc := 15) (loc' := [(3, .int x2), (2, .int x1), (0, .ref (q 0)), (1, .int a1)]) cx dX10_trailerLoads_15 rfl (by decide) rfl ?_
  refine r_iconst (pc := 16) cx dX10_trailerLoads_16 ic_1 ?_
  refine r_istore (pc := 17) (loc' := [(4, .int (1 : Int32)), (3, .int x2), (2, .int x1), (0, .ref (q 0)), (1, .int a1)]) cx dX10_trailerLoads_17 (by decide) rfl ?_
  have hL19 : ∀ (k19_76 : (Nat → Int32) → Option (Int32 × T_M)), (∀ (f5 : (Nat → Int32)), k19_76 f5 = some (r_, o_v) → WW p l e rm_M_trailerLoads s m args below meth c D A 5 0 0 (MQ below (QI D K A r_ (cl_M K q o_v)) args s 0 0 A) ([((q 0), ob 9 [.int (M_thrown v), .ref (q 1), .int (M_taped (M_tp v)), .ref (q 2), .ref (q 3), .ref (q 4), .ref (q 5), .ref (q 6), .ref (q 7), .ref (q 8), .ref (q 9), .ref (q 10), .ref (q 11), .ref (q 12), .ref (q 13), .ref (q 14), .int (M_lines (M_rd v)), .int (M_size (M_rd v)), .int (M_at (M_rd v)), .int (M_place (M_rd v)), .int (M_sort (M_rd v)), .int (M_value (M_rd v)), .int (M_fault (M_rd v)), .int (M_faultPlace (M_rd v)), .int (M_lastFault (M_lf v)), .int (M_lastPlace (M_lf v)), .ref (q 15), .ref (q 16), .ref (q 17), .ref (q 18), .int (M_hasImage (M_im v)), .int (M_spanNow (M_rn v)), .ref (q 19), .int (M_placeThen (M_rn v)), .int (M_alonePlace (M_al v)), .int (M_aloneSteps (M_al v)), .int (M_aloneOut (M_al v)), .ref (q 20), .ref (q 21), .ref (q 22), .ref (q 23), .int (M_shotAlarm (M_ex v)), .int (M_drawn (M_ex v))]), ((q 1), aI K 700 (M_tape (M_tp v))), ((q 2), aI K 20 (M_number (M_cd v))), ((q 3), aZ K 5 (M_isTold (M_rd v))), ((q 4), aI K 80 (M_codeSort (M_cd v))), ((q 5), aI K 80 (M_codeA (M_cd v))), ((q 6), aI K 80 (M_codeB (M_cd v))), ((q 7), aI K 80 (M_codeC (M_cd v))), ((q 8), aI K 80 (M_codeName (M_cd v))), ((q 9), aI K 80 (M_codePlace (M_cd v))), ((q 10), aI K 80 (M_codeTo (M_cd v))), ((q 11), aI K 280 (M_labelName (M_cd v))), ((q 12), aI K 280 (M_labelAt (M_cd v))), ((q 13), aI K 64 (M_data (M_cd v))), ((q 14), aZ K 32 (M_hasData (M_rd v))), ((q 15), aI K 314 f5), ((q 16), aI K 314 (M_aside (M_ex v))), ((q 17), aI K 314 (M_further (M_ex v))), ((q 18), aI K 314 (M_image (M_im v))), ((q 19), aI K 3 (M_sizeNow (M_rn v))), ((q 20), aI K 8 (M_aloneRegister (M_al v))), ((q 21), aI K 4 (M_aloneReal (M_al v))), ((q 22), aI K 32 (M_aloneMemory (M_al v))), ((q 23), aI K 999 (M_aloneOutput (M_al v)))]) ([(0, .ref (q 0)), (1, .int a1), (2, .int x1), (3, .int x2)]) ([]) 76) → ∀ (n19 : Nat) (x3 : Int32) (f4 : (Nat → Int32)), f_M_trailerLoads_L19 k19_76 n19 x3 f4 = some (r_, o_v) → WW p l e rm_M_trailerLoads s m args below meth c D A 5 0 0 (MQ below (QI D K A r_ (cl_M K q o_v)) args s 0 0 A) ([((q 0), ob 9 [.int (M_thrown v), .ref (q 1), .int (M_taped (M_tp v)), .ref (q 2), .ref (q 3), .ref (q 4), .ref (q 5), .ref (q 6), .ref (q 7), .ref (q 8), .ref (q 9), .ref (q 10), .ref (q 11), .ref (q 12), .ref (q 13), .ref (q 14), .int (M_lines (M_rd v)), .int (M_size (M_rd v)), .int (M_at (M_rd v)), .int (M_place (M_rd v)), .int (M_sort (M_rd v)), .int (M_value (M_rd v)), .int (M_fault (M_rd v)), .int (M_faultPlace (M_rd v)), .int (M_lastFault (M_lf v)), .int (M_lastPlace (M_lf v)), .ref (q 15), .ref (q 16), .ref (q 17), .ref (q 18), .int (M_hasImage (M_im v)), .int (M_spanNow (M_rn v)), .ref (q 19), .int (M_placeThen (M_rn v)), .int (M_alonePlace (M_al v)), .int (M_aloneSteps (M_al v)), .int (M_aloneOut (M_al v)), .ref (q 20), .ref (q 21), .ref (q 22), .ref (q 23), .int (M_shotAlarm (M_ex v)), .int (M_drawn (M_ex v))]), ((q 1), aI K 700 (M_tape (M_tp v))), ((q 2), aI K 20 (M_number (M_cd v))), ((q 3), aZ K 5 (M_isTold (M_rd v))), ((q 4), aI K 80 (M_codeSort (M_cd v))), ((q 5), aI K 80 (M_codeA (M_cd v))), ((q 6), aI K 80 (M_codeB (M_cd v))), ((q 7), aI K 80 (M_codeC (M_cd v))), ((q 8), aI K 80 (M_codeName (M_cd v))), ((q 9), aI K 80 (M_codePlace (M_cd v))), ((q 10), aI K 80 (M_codeTo (M_cd v))), ((q 11), aI K 280 (M_labelName (M_cd v))), ((q 12), aI K 280 (M_labelAt (M_cd v))), ((q 13), aI K 64 (M_data (M_cd v))), ((q 14), aZ K 32 (M_hasData (M_rd v))), ((q 15), aI K 314 f4), ((q 16), aI K 314 (M_aside (M_ex v))), ((q 17), aI K 314 (M_further (M_ex v))), ((q 18), aI K 314 (M_image (M_im v))), ((q 19), aI K 3 (M_sizeNow (M_rn v))), ((q 20), aI K 8 (M_aloneRegister (M_al v))), ((q 21), aI K 4 (M_aloneReal (M_al v))), ((q 22), aI K 32 (M_aloneMemory (M_al v))), ((q 23), aI K 999 (M_aloneOutput (M_al v)))]) ([(0, .ref (q 0)), (1, .int a1), (2, .int x1), (3, .int x2), (4, .int x3)]) ([]) 19 := by
    clear hf
    intro k19_76 hk19_76 n19
    induction n19 with
    | zero => intro x3 f4 hf; exact (nomatch (show (none : Option (Int32 × T_M)) = some _ from hf))
    | succ n19 ih19 =>
      intro x3 f4 hf
      rw [f_M_trailerLoads_L19] at hf
      refine r_iload (pc := 19) cx dX10_trailerLoads_19 4 rfl ?_
      refine r_bipush (pc := 21) cx dX10_trailerLoads_21 bp_8 ?_
      refine r_icmp_ge (pc := 23) (tgt := 76) cx dX10_trailerLoads_23 (by decide) (fun h6 => ?_) (fun h6 => ?_)
      · replace hf := ifp h6 hf
        refine r_loc (loc' := [(0, .ref (q 0)), (1, .int a1), (2, .int x1), (3, .int x2)]) [0, 1, 2, 3] rfl ?_
        exact hk19_76 _ hf
      · replace hf := ifn h6 hf
        refine r_aload_n (pc := 26) cx dX10_trailerLoads_26 0 rfl ?_
        refine r_get (pc := 27) cx cf_X10 0 26 rfl (by decide) rfl wd_1342 dX10_trailerLoads_27 ?_
        refine r_bipush (pc := 30) cx dX10_trailerLoads_30 bp_87 ?_
        refine r_iload (pc := 32) cx dX10_trailerLoads_32 4 rfl ?_
        refine r_iadd (pc := 34) cx dX10_trailerLoads_34 ?_
        refine r_iconst (pc := 35) cx dX10_trailerLoads_35 ic_1 ?_
        refine r_isub (pc := 36) cx dX10_trailerLoads_36 ?_
        refine r_aload_n (pc := 37) cx dX10_trailerLoads_37 0 rfl ?_
        refine r_get (pc := 38) cx cf_X10 0 26 rfl (by decide) rfl wd_1342 dX10_trailerLoads_38 ?_
        refine r_bipush (pc := 41) cx dX10_trailerLoads_41 bp_87 ?_
        refine r_iload (pc := 43) cx dX10_trailerLoads_43 4 rfl ?_
        refine r_iadd (pc := 45) cx dX10_trailerLoads_45 ?_
        replace hf := chk_of hf
        obtain ⟨h7, hf⟩ := hf
        refine r_iald (pc := 46) cx 15 rfl h7 dX10_trailerLoads_46 ?_
        replace hf := nm_of hf
        obtain ⟨x8, ex8, hf⟩ := hf
        refine r_nm ex8 ?_
        replace hf := chk_of hf
        obtain ⟨h9, hf⟩ := hf
        replace hf := nm_of hf
        obtain ⟨f10, ef10, hf⟩ := hf
        refine r_iast (pc := 47) (ws' := [((q 0), ob 9 [.int (M_thrown v), .ref (q 1), .int (M_taped (M_tp v)), .ref (q 2), .ref (q 3), .ref (q 4), .ref (q 5), .ref (q 6), .ref (q 7), .ref (q 8), .ref (q 9), .ref (q 10), .ref (q 11), .ref (q 12), .ref (q 13), .ref (q 14), .int (M_lines (M_rd v)), .int (M_size (M_rd v)), .int (M_at (M_rd v)), .int (M_place (M_rd v)), .int (M_sort (M_rd v)), .int (M_value (M_rd v)), .int (M_fault (M_rd v)), .int (M_faultPlace (M_rd v)), .int (M_lastFault (M_lf v)), .int (M_lastPlace (M_lf v)), .ref (q 15), .ref (q 16), .ref (q 17), .ref (q 18), .int (M_hasImage (M_im v)), .int (M_spanNow (M_rn v)), .ref (q 19), .int (M_placeThen (M_rn v)), .int (M_alonePlace (M_al v)), .int (M_aloneSteps (M_al v)), .int (M_aloneOut (M_al v)), .ref (q 20), .ref (q 21), .ref (q 22), .ref (q 23), .int (M_shotAlarm (M_ex v)), .int (M_drawn (M_ex v))]), ((q 1), aI K 700 (M_tape (M_tp v))), ((q 2), aI K 20 (M_number (M_cd v))), ((q 3), aZ K 5 (M_isTold (M_rd v))), ((q 4), aI K 80 (M_codeSort (M_cd v))), ((q 5), aI K 80 (M_codeA (M_cd v))), ((q 6), aI K 80 (M_codeB (M_cd v))), ((q 7), aI K 80 (M_codeC (M_cd v))), ((q 8), aI K 80 (M_codeName (M_cd v))), ((q 9), aI K 80 (M_codePlace (M_cd v))), ((q 10), aI K 80 (M_codeTo (M_cd v))), ((q 11), aI K 280 (M_labelName (M_cd v))), ((q 12), aI K 280 (M_labelAt (M_cd v))), ((q 13), aI K 64 (M_data (M_cd v))), ((q 14), aZ K 32 (M_hasData (M_rd v))), ((q 15), aI K 314 f10), ((q 16), aI K 314 (M_aside (M_ex v))), ((q 17), aI K 314 (M_further (M_ex v))), ((q 18), aI K 314 (M_image (M_im v))), ((q 19), aI K 3 (M_sizeNow (M_rn v))), ((q 20), aI K 8 (M_aloneRegister (M_al v))), ((q 21), aI K 4 (M_aloneReal (M_al v))), ((q 22), aI K 32 (M_aloneMemory (M_al v))), ((q 23), aI K 999 (M_aloneOutput (M_al v)))]) cx 15 rfl h9 dX10_trailerLoads_47 ef10 rfl ?_
        refine r_aload_n (pc := 48) cx dX10_trailerLoads_48 0 rfl ?_
        refine r_get (pc := 49) cx cf_X10 0 26 rfl (by decide) rfl wd_1342 dX10_trailerLoads_49 ?_
        refine r_bipush (pc := 52) cx dX10_trailerLoads_52 bp_95 ?_
        refine r_iload (pc := 54) cx dX10_trailerLoads_54 4 rfl ?_
        refine r_iadd (pc := 56) cx dX10_trailerLoads_56 ?_
        refine r_iconst (pc := 57) cx dX10_trailerLoads_57 ic_1 ?_
        refine r_isub (pc := 58) cx dX10_trailerLoads_58 ?_
        refine r_aload_n (pc := 59) cx dX10_trailerLoads_59 0 rfl ?_
        refine r_get (pc := 60) cx cf_X10 0 26 rfl (by decide) rfl wd_1342 dX10_trailerLoads_60 ?_
        refine r_bipush (pc := 63) cx dX10_trailerLoads_63 bp_95 ?_
        refine r_iload (pc := 65) cx dX10_trailerLoads_65 4 rfl ?_
        refine r_iadd (pc := 67) cx dX10_trailerLoads_67 ?_
        replace hf := chk_of hf
        obtain ⟨h11, hf⟩ := hf
        refine r_iald (pc := 68) cx 15 rfl h11 dX10_trailerLoads_68 ?_
        replace hf := nm_of hf
        obtain ⟨x12, ex12, hf⟩ := hf
        refine r_nm ex12 ?_
        replace hf := chk_of hf
        obtain ⟨h13, hf⟩ := hf
        replace hf := nm_of hf
        obtain ⟨f14, ef14, hf⟩ := hf
        refine r_iast (pc := 69) (ws' := [((q 0), ob 9 [.int (M_thrown v), .ref (q 1), .int (M_taped (M_tp v)), .ref (q 2), .ref (q 3), .ref (q 4), .ref (q 5), .ref (q 6), .ref (q 7), .ref (q 8), .ref (q 9), .ref (q 10), .ref (q 11), .ref (q 12), .ref (q 13), .ref (q 14), .int (M_lines (M_rd v)), .int (M_size (M_rd v)), .int (M_at (M_rd v)), .int (M_place (M_rd v)), .int (M_sort (M_rd v)), .int (M_value (M_rd v)), .int (M_fault (M_rd v)), .int (M_faultPlace (M_rd v)), .int (M_lastFault (M_lf v)), .int (M_lastPlace (M_lf v)), .ref (q 15), .ref (q 16), .ref (q 17), .ref (q 18), .int (M_hasImage (M_im v)), .int (M_spanNow (M_rn v)), .ref (q 19), .int (M_placeThen (M_rn v)), .int (M_alonePlace (M_al v)), .int (M_aloneSteps (M_al v)), .int (M_aloneOut (M_al v)), .ref (q 20), .ref (q 21), .ref (q 22), .ref (q 23), .int (M_shotAlarm (M_ex v)), .int (M_drawn (M_ex v))]), ((q 1), aI K 700 (M_tape (M_tp v))), ((q 2), aI K 20 (M_number (M_cd v))), ((q 3), aZ K 5 (M_isTold (M_rd v))), ((q 4), aI K 80 (M_codeSort (M_cd v))), ((q 5), aI K 80 (M_codeA (M_cd v))), ((q 6), aI K 80 (M_codeB (M_cd v))), ((q 7), aI K 80 (M_codeC (M_cd v))), ((q 8), aI K 80 (M_codeName (M_cd v))), ((q 9), aI K 80 (M_codePlace (M_cd v))), ((q 10), aI K 80 (M_codeTo (M_cd v))), ((q 11), aI K 280 (M_labelName (M_cd v))), ((q 12), aI K 280 (M_labelAt (M_cd v))), ((q 13), aI K 64 (M_data (M_cd v))), ((q 14), aZ K 32 (M_hasData (M_rd v))), ((q 15), aI K 314 f14), ((q 16), aI K 314 (M_aside (M_ex v))), ((q 17), aI K 314 (M_further (M_ex v))), ((q 18), aI K 314 (M_image (M_im v))), ((q 19), aI K 3 (M_sizeNow (M_rn v))), ((q 20), aI K 8 (M_aloneRegister (M_al v))), ((q 21), aI K 4 (M_aloneReal (M_al v))), ((q 22), aI K 32 (M_aloneMemory (M_al v))), ((q 23), aI K 999 (M_aloneOutput (M_al v)))]) cx 15 rfl h13 dX10_trailerLoads_69 ef14 rfl ?_
        replace hf := nm_of hf
        obtain ⟨x15, ex15, hf⟩ := hf
        refine r_iinc (pc := 70) (loc' := [(4, .int x15), (0, .ref (q 0)), (1, .int a1), (2, .int x1), (3, .int x2)]) (v := x15) cx dX10_trailerLoads_70 4 rfl ((congrArg (fun z => x3 + z) ic_1).trans ex15.symm) (by decide) rfl ?_
        refine r_goto (pc := 73) (tgt := 19) cx dX10_trailerLoads_73 (by decide) ?_
        refine r_loc (loc' := [(0, .ref (q 0)), (1, .int a1), (2, .int x1), (3, .int x2), (4, .int x15)]) [1, 2, 3, 4, 0] rfl ?_
        exact ih19 _ _ hf
  refine r_loc (loc' := [(0, .ref (q 0)), (1, .int a1), (2, .int x1), (3, .int x2), (4, .int (1 : Int32))]) [3, 4, 2, 1, 0] rfl ?_
  refine hL19 _ (fun f5 hf => ?_) _ _ _ hf
  refine r_aload_n (pc := 76) cx dX10_trailerLoads_76 0 rfl ?_
  refine r_get (pc := 77) cx cf_X10 0 26 rfl (by decide) rfl wd_1342 dX10_trailerLoads_77 ?_
  refine r_bipush (pc := 80) cx dX10_trailerLoads_80 bp_86 ?_
  refine r_dup2 (pc := 82) cx dX10_trailerLoads_82 rfl rfl ?_
  refine r_iald (pc := 83) cx 15 rfl (by decide) dX10_trailerLoads_83 ?_
  refine r_iconst (pc := 84) cx dX10_trailerLoads_84 ic_1 ?_
  refine r_isub (pc := 85) cx dX10_trailerLoads_85 ?_
  replace hf := nm_of hf
  obtain ⟨x16, ex16, hf⟩ := hf
  refine r_nm ex16 ?_
  replace hf := nm_of hf
  obtain ⟨f17, ef17, hf⟩ := hf
  refine r_iast (pc := 86) (ws' := [((q 0), ob 9 [.int (M_thrown v), .ref (q 1), .int (M_taped (M_tp v)), .ref (q 2), .ref (q 3), .ref (q 4), .ref (q 5), .ref (q 6), .ref (q 7), .ref (q 8), .ref (q 9), .ref (q 10), .ref (q 11), .ref (q 12), .ref (q 13), .ref (q 14), .int (M_lines (M_rd v)), .int (M_size (M_rd v)), .int (M_at (M_rd v)), .int (M_place (M_rd v)), .int (M_sort (M_rd v)), .int (M_value (M_rd v)), .int (M_fault (M_rd v)), .int (M_faultPlace (M_rd v)), .int (M_lastFault (M_lf v)), .int (M_lastPlace (M_lf v)), .ref (q 15), .ref (q 16), .ref (q 17), .ref (q 18), .int (M_hasImage (M_im v)), .int (M_spanNow (M_rn v)), .ref (q 19), .int (M_placeThen (M_rn v)), .int (M_alonePlace (M_al v)), .int (M_aloneSteps (M_al v)), .int (M_aloneOut (M_al v)), .ref (q 20), .ref (q 21), .ref (q 22), .ref (q 23), .int (M_shotAlarm (M_ex v)), .int (M_drawn (M_ex v))]), ((q 1), aI K 700 (M_tape (M_tp v))), ((q 2), aI K 20 (M_number (M_cd v))), ((q 3), aZ K 5 (M_isTold (M_rd v))), ((q 4), aI K 80 (M_codeSort (M_cd v))), ((q 5), aI K 80 (M_codeA (M_cd v))), ((q 6), aI K 80 (M_codeB (M_cd v))), ((q 7), aI K 80 (M_codeC (M_cd v))), ((q 8), aI K 80 (M_codeName (M_cd v))), ((q 9), aI K 80 (M_codePlace (M_cd v))), ((q 10), aI K 80 (M_codeTo (M_cd v))), ((q 11), aI K 280 (M_labelName (M_cd v))), ((q 12), aI K 280 (M_labelAt (M_cd v))), ((q 13), aI K 64 (M_data (M_cd v))), ((q 14), aZ K 32 (M_hasData (M_rd v))), ((q 15), aI K 314 f17), ((q 16), aI K 314 (M_aside (M_ex v))), ((q 17), aI K 314 (M_further (M_ex v))), ((q 18), aI K 314 (M_image (M_im v))), ((q 19), aI K 3 (M_sizeNow (M_rn v))), ((q 20), aI K 8 (M_aloneRegister (M_al v))), ((q 21), aI K 4 (M_aloneReal (M_al v))), ((q 22), aI K 32 (M_aloneMemory (M_al v))), ((q 23), aI K 999 (M_aloneOutput (M_al v)))]) cx 15 rfl (by decide) dX10_trailerLoads_86 ef17 rfl ?_
  refine r_iload_n (pc := 87) cx dX10_trailerLoads_87 2 rfl ?_
  refine r_aload_n (pc := 88) cx dX10_trailerLoads_88 0 rfl ?_
  refine r_iconst (pc := 89) cx dX10_trailerLoads_89 ic_1 ?_
  refine r_iload_n (pc := 90) cx dX10_trailerLoads_90 1 rfl ?_
  replace hf := bd_of hf
  obtain ⟨r18, hc19, hf⟩ := hf
  refine r_Vi (pc := 91) (ws' := [((q 0), ob 9 [.int (M_thrown v), .ref (q 1), .int (M_taped (M_tp v)), .ref (q 2), .ref (q 3), .ref (q 4), .ref (q 5), .ref (q 6), .ref (q 7), .ref (q 8), .ref (q 9), .ref (q 10), .ref (q 11), .ref (q 12), .ref (q 13), .ref (q 14), .int (M_lines (M_rd v)), .int (M_size (M_rd v)), .int (M_at (M_rd v)), .int (M_place (M_rd v)), .int (M_sort (M_rd v)), .int (M_value (M_rd v)), .int (M_fault (M_rd v)), .int (M_faultPlace (M_rd v)), .int (M_lastFault (M_lf v)), .int (M_lastPlace (M_lf v)), .ref (q 15), .ref (q 16), .ref (q 17), .ref (q 18), .int (M_hasImage (M_im v)), .int (M_spanNow (M_rn v)), .ref (q 19), .int (M_placeThen (M_rn v)), .int (M_alonePlace (M_al v)), .int (M_aloneSteps (M_al v)), .int (M_aloneOut (M_al v)), .ref (q 20), .ref (q 21), .ref (q 22), .ref (q 23), .int (M_shotAlarm (M_ex v)), .int (M_drawn (M_ex v))]), ((q 1), aI K 700 (M_tape (M_tp v))), ((q 2), aI K 20 (M_number (M_cd v))), ((q 3), aZ K 5 (M_isTold (M_rd v))), ((q 4), aI K 80 (M_codeSort (M_cd v))), ((q 5), aI K 80 (M_codeA (M_cd v))), ((q 6), aI K 80 (M_codeB (M_cd v))), ((q 7), aI K 80 (M_codeC (M_cd v))), ((q 8), aI K 80 (M_codeName (M_cd v))), ((q 9), aI K 80 (M_codePlace (M_cd v))), ((q 10), aI K 80 (M_codeTo (M_cd v))), ((q 11), aI K 280 (M_labelName (M_cd v))), ((q 12), aI K 280 (M_labelAt (M_cd v))), ((q 13), aI K 64 (M_data (M_cd v))), ((q 14), aZ K 32 (M_hasData (M_rd v))), ((q 15), aI K 314 f17), ((q 16), aI K 314 (M_aside (M_ex v))), ((q 17), aI K 314 (M_further (M_ex v))), ((q 18), aI K 314 (M_image (M_im v))), ((q 19), aI K 3 (M_sizeNow (M_rn v))), ((q 20), aI K 8 (M_aloneRegister (M_al v))), ((q 21), aI K 4 (M_aloneReal (M_al v))), ((q 22), aI K 32 (M_aloneMemory (M_al v))), ((q 23), aI K 999 (M_aloneOutput (M_al v)))]) (wc := [((q 0), ob 9 [.int (M_thrown v), .ref (q 1), .int (M_taped (M_tp v)), .ref (q 2), .ref (q 3), .ref (q 4), .ref (q 5), .ref (q 6), .ref (q 7), .ref (q 8), .ref (q 9), .ref (q 10), .ref (q 11), .ref (q 12), .ref (q 13), .ref (q 14), .int (M_lines (M_rd v)), .int (M_size (M_rd v)), .int (M_at (M_rd v)), .int (M_place (M_rd v)), .int (M_sort (M_rd v)), .int (M_value (M_rd v)), .int (M_fault (M_rd v)), .int (M_faultPlace (M_rd v)), .int (M_lastFault (M_lf v)), .int (M_lastPlace (M_lf v)), .ref (q 15), .ref (q 16), .ref (q 17), .ref (q 18), .int (M_hasImage (M_im v)), .int (M_spanNow (M_rn v)), .ref (q 19), .int (M_placeThen (M_rn v)), .int (M_alonePlace (M_al v)), .int (M_aloneSteps (M_al v)), .int (M_aloneOut (M_al v)), .ref (q 20), .ref (q 21), .ref (q 22), .ref (q 23), .int (M_shotAlarm (M_ex v)), .int (M_drawn (M_ex v))]), ((q 1), aI K 700 (M_tape (M_tp v))), ((q 2), aI K 20 (M_number (M_cd v))), ((q 3), aZ K 5 (M_isTold (M_rd v))), ((q 4), aI K 80 (M_codeSort (M_cd v))), ((q 5), aI K 80 (M_codeA (M_cd v))), ((q 6), aI K 80 (M_codeB (M_cd v))), ((q 7), aI K 80 (M_codeC (M_cd v))), ((q 8), aI K 80 (M_codeName (M_cd v))), ((q 9), aI K 80 (M_codePlace (M_cd v))), ((q 10), aI K 80 (M_codeTo (M_cd v))), ((q 11), aI K 280 (M_labelName (M_cd v))), ((q 12), aI K 280 (M_labelAt (M_cd v))), ((q 13), aI K 64 (M_data (M_cd v))), ((q 14), aZ K 32 (M_hasData (M_rd v))), ((q 15), aI K 314 f17), ((q 16), aI K 314 (M_aside (M_ex v))), ((q 17), aI K 314 (M_further (M_ex v))), ((q 18), aI K 314 (M_image (M_im v))), ((q 19), aI K 3 (M_sizeNow (M_rn v))), ((q 20), aI K 8 (M_aloneRegister (M_al v))), ((q 21), aI K 4 (M_aloneReal (M_al v))), ((q 22), aI K 32 (M_aloneMemory (M_al v))), ((q 23), aI K 999 (M_aloneOutput (M_al v)))]) (nn := 24) cx [.int (1 : Int32), .int a1] [.int x1] (m_M_addressOf l D K q ((M_tp v), (M_rd v), (M_lf v), (M_cd v), (f17, (M_spanNow (M_rn v)), (M_sizeNow (M_rn v)), (M_placeThen (M_rn v))), (M_ex v), (M_im v), (M_al v), (M_thrown v)) (1 : Int32) a1 hc19) (by (try simp only [cl_M, M_tape_mk, M_taped_mk, M_tp_mk, M_lines_mk, M_size_mk, M_at_mk, M_place_mk, M_sort_mk, M_value_mk, M_fault_mk, M_faultPlace_mk, M_isTold_mk, M_hasData_mk, M_rd_mk, M_lastFault_mk, M_lastPlace_mk, M_lf_mk, M_number_mk, M_codeSort_mk, M_codeA_mk, M_codeB_mk, M_codeC_mk, M_codeName_mk, M_codePlace_mk, M_codeTo_mk, M_labelName_mk, M_labelAt_mk, M_data_mk, M_cd_mk, M_s_mk, M_spanNow_mk, M_sizeNow_mk, M_placeThen_mk, M_rn_mk, M_aside_mk, M_further_mk, M_shotAlarm_mk, M_drawn_mk, M_ex_mk, M_image_mk, M_hasImage_mk, M_im_mk, M_alonePlace_mk, M_aloneSteps_mk, M_aloneOut_mk, M_aloneRegister_mk, M_aloneReal_mk, M_aloneMemory_mk, M_aloneOutput_mk, M_al_mk, M_thrown_mk, List.cons_append, List.nil_append, List.append_nil]) <;> rfl) yv_X10_addressOf wd_1611 ⟨rfl, rfl⟩ (by decide) (fr_s (j := 0) rfl rfl rfl (fr_s (j := 1) rfl rfl rfl (fr_s (j := 2) rfl rfl rfl (fr_s (j := 3) rfl rfl rfl (fr_s (j := 4) rfl rfl rfl (fr_s (j := 5) rfl rfl rfl (fr_s (j := 6) rfl rfl rfl (fr_s (j := 7) rfl rfl rfl (fr_s (j := 8) rfl rfl rfl (fr_s (j := 9) rfl rfl rfl (fr_s (j := 10) rfl rfl rfl (fr_s (j := 11) rfl rfl rfl (fr_s (j := 12) rfl rfl rfl (fr_s (j := 13) rfl rfl rfl (fr_s (j := 14) rfl rfl rfl (fr_s (j := 15) rfl rfl rfl (fr_s (j := 16) rfl rfl rfl (fr_s (j := 17) rfl rfl rfl (fr_s (j := 18) rfl rfl rfl (fr_s (j := 19) rfl rfl rfl (fr_s (j := 20) rfl rfl rfl (fr_s (j := 21) rfl rfl rfl (fr_s (j := 22) rfl rfl rfl (fr_s (j := 23) rfl rfl rfl (fr_n))))))))))))))))))))))))) rfl (by decide) 0 rfl rfl rfl (Nat.le_of_ble_eq_true rfl) dX10_trailerLoads_91 ?_
  refine r_icmp_eq (pc := 94) (tgt := 99) cx dX10_trailerLoads_94 (by decide) (fun h20 => ?_) (fun h20 => ?_)
  · replace hf := ifp h20 hf
    refine r_aload_n (pc := 99) cx dX10_trailerLoads_99 0 rfl ?_
    refine r_get (pc := 100) cx cf_X10 0 26 rfl (by decide) rfl wd_1342 dX10_trailerLoads_100 ?_
    refine r_bipush (pc := 103) cx dX10_trailerLoads_103 bp_12 ?_
    refine r_aload_n (pc := 105) cx dX10_trailerLoads_105 0 rfl ?_
    refine r_get (pc := 106) cx cf_X10 0 6 rfl (by decide) rfl wd_1322 dX10_trailerLoads_106 ?_
    refine r_iload_n (pc := 109) cx dX10_trailerLoads_109 1 rfl ?_
    replace hf := chk_of hf
    obtain ⟨h21, hf⟩ := hf
    refine r_iald (pc := 110) cx 5 rfl h21 dX10_trailerLoads_110 ?_
    refine r_iadd (pc := 111) cx dX10_trailerLoads_111 ?_
    refine r_iload_n (pc := 112) cx dX10_trailerLoads_112 3 rfl ?_
    replace hf := chk_of hf
    obtain ⟨h22, hf⟩ := hf
    replace hf := nm_of hf
    obtain ⟨f23, ef23, hf⟩ := hf
    refine r_iast (pc := 113) (ws' := [((q 0), ob 9 [.int (M_thrown v), .ref (q 1), .int (M_taped (M_tp v)), .ref (q 2), .ref (q 3), .ref (q 4), .ref (q 5), .ref (q 6), .ref (q 7), .ref (q 8), .ref (q 9), .ref (q 10), .ref (q 11), .ref (q 12), .ref (q 13), .ref (q 14), .int (M_lines (M_rd v)), .int (M_size (M_rd v)), .int (M_at (M_rd v)), .int (M_place (M_rd v)), .int (M_sort (M_rd v)), .int (M_value (M_rd v)), .int (M_fault (M_rd v)), .int (M_faultPlace (M_rd v)), .int (M_lastFault (M_lf v)), .int (M_lastPlace (M_lf v)), .ref (q 15), .ref (q 16), .ref (q 17), .ref (q 18), .int (M_hasImage (M_im v)), .int (M_spanNow (M_rn v)), .ref (q 19), .int (M_placeThen (M_rn v)), .int (M_alonePlace (M_al v)), .int (M_aloneSteps (M_al v)), .int (M_aloneOut (M_al v)), .ref (q 20), .ref (q 21), .ref (q 22), .ref (q 23), .int (M_shotAlarm (M_ex v)), .int (M_drawn (M_ex v))]), ((q 1), aI K 700 (M_tape (M_tp v))), ((q 2), aI K 20 (M_number (M_cd v))), ((q 3), aZ K 5 (M_isTold (M_rd v))), ((q 4), aI K 80 (M_codeSort (M_cd v))), ((q 5), aI K 80 (M_codeA (M_cd v))), ((q 6), aI K 80 (M_codeB (M_cd v))), ((q 7), aI K 80 (M_codeC (M_cd v))), ((q 8), aI K 80 (M_codeName (M_cd v))), ((q 9), aI K 80 (M_codePlace (M_cd v))), ((q 10), aI K 80 (M_codeTo (M_cd v))), ((q 11), aI K 280 (M_labelName (M_cd v))), ((q 12), aI K 280 (M_labelAt (M_cd v))), ((q 13), aI K 64 (M_data (M_cd v))), ((q 14), aZ K 32 (M_hasData (M_rd v))), ((q 15), aI K 314 f23), ((q 16), aI K 314 (M_aside (M_ex v))), ((q 17), aI K 314 (M_further (M_ex v))), ((q 18), aI K 314 (M_image (M_im v))), ((q 19), aI K 3 (M_sizeNow (M_rn v))), ((q 20), aI K 8 (M_aloneRegister (M_al v))), ((q 21), aI K 4 (M_aloneReal (M_al v))), ((q 22), aI K 32 (M_aloneMemory (M_al v))), ((q 23), aI K 999 (M_aloneOutput (M_al v)))]) cx 15 rfl h22 dX10_trailerLoads_113 ef23 rfl ?_
    refine r_iconst (pc := 114) cx dX10_trailerLoads_114 ic_0 ?_
    have hi := inj2 hf
    exact r_iret (pc := 115) cx hi.1 (by rw [← hi.2]; (try simp only [cl_M, M_tape_mk, M_taped_mk, M_tp_mk, M_lines_mk, M_size_mk, M_at_mk, M_place_mk, M_sort_mk, M_value_mk, M_fault_mk, M_faultPlace_mk, M_isTold_mk, M_hasData_mk, M_rd_mk, M_lastFault_mk, M_lastPlace_mk, M_lf_mk, M_number_mk, M_codeSort_mk, M_codeA_mk, M_codeB_mk, M_codeC_mk, M_codeName_mk, M_codePlace_mk, M_codeTo_mk, M_labelName_mk, M_labelAt_mk, M_data_mk, M_cd_mk, M_s_mk, M_spanNow_mk, M_sizeNow_mk, M_placeThen_mk, M_rn_mk, M_aside_mk, M_further_mk, M_shotAlarm_mk, M_drawn_mk, M_ex_mk, M_image_mk, M_hasImage_mk, M_im_mk, M_alonePlace_mk, M_aloneSteps_mk, M_aloneOut_mk, M_aloneRegister_mk, M_aloneReal_mk, M_aloneMemory_mk, M_aloneOutput_mk, M_al_mk, M_thrown_mk, List.cons_append, List.nil_append, List.append_nil]) <;> rfl) dX10_trailerLoads_115
  · replace hf := ifn h20 hf
    refine r_iconst (pc := 97) cx dX10_trailerLoads_97 ic_1 ?_
    have hi := inj2 hf
    exact r_iret (pc := 98) cx hi.1 (by rw [← hi.2]; (try simp only [cl_M, M_tape_mk, M_taped_mk, M_tp_mk, M_lines_mk, M_size_mk, M_at_mk, M_place_mk, M_sort_mk, M_value_mk, M_fault_mk, M_faultPlace_mk, M_isTold_mk, M_hasData_mk, M_rd_mk, M_lastFault_mk, M_lastPlace_mk, M_lf_mk, M_number_mk, M_codeSort_mk, M_codeA_mk, M_codeB_mk, M_codeC_mk, M_codeName_mk, M_codePlace_mk, M_codeTo_mk, M_labelName_mk, M_labelAt_mk, M_data_mk, M_cd_mk, M_s_mk, M_spanNow_mk, M_sizeNow_mk, M_placeThen_mk, M_rn_mk, M_aside_mk, M_further_mk, M_shotAlarm_mk, M_drawn_mk, M_ex_mk, M_image_mk, M_hasImage_mk, M_im_mk, M_alonePlace_mk, M_aloneSteps_mk, M_aloneOut_mk, M_aloneRegister_mk, M_aloneReal_mk, M_aloneMemory_mk, M_aloneOutput_mk, M_al_mk, M_thrown_mk, List.cons_append, List.nil_append, List.append_nil]) <;> rfl) dX10_trailerLoads_98
theorem yv_X10_trailerLoads : YV yX10_trailerLoads cX10_trailerLoads 5 (some .int) 1 := ⟨⟨by decide +kernel, by decide +kernel, by decide +kernel⟩, wd_1618, wd_102, wd_1617, wd_63⟩
abbrev rm_M_stepped : Room := { frames := 4, cells := 0, slots := 0, locals := 96 }
set_option maxRecDepth 100000 in
set_option maxHeartbeats 4000000 in
theorem m_M_stepped (l : Launch) (D : va_G) (K : Nat → ClassId) (q : Nat → Nat) (v : T_M) (a1 : Int32) {r_ : Int32} {o_v : T_M} (hf : f_M_stepped v a1 = some (r_, o_v)) : MI l yX10_stepped cX10_stepped 8 (some .int) rm_M_stepped D K [.ref (q 0), .int a1] (cl_M K q v) r_ (cl_M K q o_v) := by
  refine MI_of (loc0 := [(0, .ref (q 0)), (1, .int a1)]) (by decide +kernel) rfl (Nat.le_of_ble_eq_true rfl) ?_
  intro p e s m args below meth c A cx
  unfold f_M_stepped at hf
  refine r_ws (ws' := [((q 0), ob 9 [.int (M_thrown v), .ref (q 1), .int (M_taped (M_tp v)), .ref (q 2), .ref (q 3), .ref (q 4), .ref (q 5), .ref (q 6), .ref (q 7), .ref (q 8), .ref (q 9), .ref (q 10), .ref (q 11), .ref (q 12), .ref (q 13), .ref (q 14), .int (M_lines (M_rd v)), .int (M_size (M_rd v)), .int (M_at (M_rd v)), .int (M_place (M_rd v)), .int (M_sort (M_rd v)), .int (M_value (M_rd v)), .int (M_fault (M_rd v)), .int (M_faultPlace (M_rd v)), .int (M_lastFault (M_lf v)), .int (M_lastPlace (M_lf v)), .ref (q 15), .ref (q 16), .ref (q 17), .ref (q 18), .int (M_hasImage (M_im v)), .int (M_spanNow (M_rn v)), .ref (q 19), .int (M_placeThen (M_rn v)), .int (M_alonePlace (M_al v)), .int (M_aloneSteps (M_al v)), .int (M_aloneOut (M_al v)), .ref (q 20), .ref (q 21), .ref (q 22), .ref (q 23), .int (M_shotAlarm (M_ex v)), .int (M_drawn (M_ex v))]), ((q 1), aI K 700 (M_tape (M_tp v))), ((q 2), aI K 20 (M_number (M_cd v))), ((q 3), aZ K 5 (M_isTold (M_rd v))), ((q 4), aI K 80 (M_codeSort (M_cd v))), ((q 5), aI K 80 (M_codeA (M_cd v))), ((q 6), aI K 80 (M_codeB (M_cd v))), ((q 7), aI K 80 (M_codeC (M_cd v))), ((q 8), aI K 80 (M_codeName (M_cd v))), ((q 9), aI K 80 (M_codePlace (M_cd v))), ((q 10), aI K 80 (M_codeTo (M_cd v))), ((q 11), aI K 280 (M_labelName (M_cd v))), ((q 12), aI K 280 (M_labelAt (M_cd v))), ((q 13), aI K 64 (M_data (M_cd v))), ((q 14), aZ K 32 (M_hasData (M_rd v))), ((q 15), aI K 314 (M_s (M_rn v))), ((q 16), aI K 314 (M_aside (M_ex v))), ((q 17), aI K 314 (M_further (M_ex v))), ((q 18), aI K 314 (M_image (M_im v))), ((q 19), aI K 3 (M_sizeNow (M_rn v))), ((q 20), aI K 8 (M_aloneRegister (M_al v))), ((q 21), aI K 4 (M_aloneReal (M_al v))), ((q 22), aI K 32 (M_aloneMemory (M_al v))), ((q 23), aI K 999 (M_aloneOutput (M_al v)))]) rfl ?_
  refine r_aload_n (pc := 0) cx dX10_stepped_0 0 rfl ?_
  refine r_get (pc := 1) cx cf_X10 0 26 rfl (by decide) rfl wd_1342 dX10_stepped_1 ?_
  refine r_iconst (pc := 4) cx dX10_stepped_4 ic_0 ?_
  refine r_iload_n (pc := 5) cx dX10_stepped_5 1 rfl ?_
  refine r_iadd (pc := 6) cx dX10_stepped_6 ?_
  replace hf := chk_of hf
  obtain ⟨h1, hf⟩ := hf
  refine r_iald (pc := 7) cx 15 rfl h1 dX10_stepped_7 ?_
  replace hf := nm_of hf
  obtain ⟨x2, ex2, hf⟩ := hf
  refine r_nm ex2 ?_
  refine r_istore_n (pc := 8) (loc' := [(2, .int x2), (0, .ref (q 0)), (1, .int a1)]) cx dX10_stepped_8 rfl (by decide) rfl ?_
  refine r_aload_n (pc := 9) cx dX10_stepped_9 1 rfl ?_
  refine r_get (pc := 10) cx cf_X10 0 5 rfl (by decide) rfl wd_1321 dX10_stepped_10 ?_
  refine r_iload_n (pc := 13) cx dX10_stepped_13 0 rfl ?_
  replace hf := chk_of hf
  obtain ⟨h3, hf⟩ := hf
  refine r_iald (pc := 14) cx 4 rfl h3 dX10_stepped_14 ?_
  replace hf := nm_of hf
  obtain ⟨x4, ex4, hf⟩ := hf
  refine r_nm ex4 ?_
  refine r_istore_n (pc := 15) (loc' := [(3, .int x4), (2, .int x2), (0, .ref (q 0)), (1, .int a1)]) cx dX10_stepped_15 rfl (by decide) rfl ?_
  refine r_iconst (pc := 16) cx dX10_stepped_16 ic_4 ?_
  refine r_bipush (pc := 17) cx dX10_stepped_17 bp_8 ?_
  refine r_iload_n (pc := 19) cx dX10_stepped_19 3 rfl ?_
  refine r_imul (pc := 20) cx dX10_stepped_20 ?_
  refine r_iadd (pc := 21) cx dX10_stepped_21 ?_
  replace hf := nm_of hf
  obtain ⟨x5, ex5, hf⟩ := hf
  refine r_nm ex5 ?_
  refine r_istore (pc := 22) (loc' := [(4, .int x5), (3, .int x4), (2, .int x2), (0, .ref (q 0)), (1, .int a1)]) cx dX10_stepped_22 (by decide) rfl ?_
  refine r_bipush (pc := 24) cx dX10_stepped_24 bp_20 ?_
  refine r_iconst (pc := 26) cx dX10_stepped_26 ic_4 ?_
  refine r_iload_n (pc := 27) cx dX10_stepped_27 4 rfl ?_
  refine r_imul (pc := 28) cx dX10_stepped_28 ?_
  refine r_iadd (pc := 29) cx dX10_stepped_29 ?_
  replace hf := nm_of hf
  obtain ⟨x6, ex6, hf⟩ := hf
  refine r_nm ex6 ?_
  refine r_istore (pc := 30) (loc' := [(5, .int x6), (4, .int x5), (3, .int x4), (2, .int x2), (0, .ref (q 0)), (1, .int a1)]) cx dX10_stepped_30 (by decide) rfl ?_
  refine r_aload_n (pc := 32) cx dX10_stepped_32 4 rfl ?_
  refine r_get (pc := 33) cx cf_X10 0 26 rfl (by decide) rfl wd_1342 dX10_stepped_33 ?_
  refine r_iload (pc := 36) cx dX10_stepped_36 1 rfl ?_
  refine r_aload_n (pc := 38) cx dX10_stepped_38 4 rfl ?_
  refine r_get (pc := 39) cx cf_X10 0 7 rfl (by decide) rfl wd_1323 dX10_stepped_39 ?_
  refine r_iload_n (pc := 42) cx dX10_stepped_42 3 rfl ?_
  replace hf := chk_of hf
  obtain ⟨h7, hf⟩ := hf
  refine r_iald (pc := 43) cx 6 rfl h7 dX10_stepped_43 ?_
  refine r_bipush (pc := 44) cx dX10_stepped_44 bp_8 ?_
  refine r_irem (pc := 46) cx dX10_stepped_46 (by decide) ?_
  refine r_iadd (pc := 47) cx dX10_stepped_47 ?_
  replace hf := nm_of hf
  obtain ⟨x8, ex8, hf⟩ := hf
  refine r_nm ex8 ?_
  replace hf := chk_of hf
  obtain ⟨h9, hf⟩ := hf
  refine r_iald (pc := 48) cx 15 rfl h9 dX10_stepped_48 ?_
  replace hf := nm_of hf
  obtain ⟨x10, ex10, hf⟩ := hf
  refine r_nm ex10 ?_
  refine r_istore (pc := 49) (loc' := [(6, .int x10), (5, .int x6), (4, .int x5), (3, .int x4), (2, .int x2), (0, .ref (q 0)), (1, .int a1)]) cx dX10_stepped_49 (by decide) rfl ?_
  refine r_aload_n (pc := 51) cx dX10_stepped_51 5 rfl ?_
  refine r_iload_n (pc := 52) cx dX10_stepped_52 4 rfl ?_
  refine r_iconst (pc := 53) cx dX10_stepped_53 ic_1 ?_
  refine r_iadd (pc := 54) cx dX10_stepped_54 ?_
  refine r_bipush (pc := 55) cx dX10_stepped_55 bp_64 ?_
  refine r_irem (pc := 57) cx dX10_stepped_57 (by decide) ?_
  replace hf := nm_of hf
  obtain ⟨x11, ex11, hf⟩ := hf
  refine r_nm ex11 ?_
  refine r_putI (pc := 58) (ws' := [((q 0), ob 9 [.int (M_thrown v), .ref (q 1), .int (M_taped (M_tp v)), .ref (q 2), .ref (q 3), .ref (q 4), .ref (q 5), .ref (q 6), .ref (q 7), .ref (q 8), .ref (q 9), .ref (q 10), .ref (q 11), .ref (q 12), .ref (q 13), .ref (q 14), .int (M_lines (M_rd v)), .int (M_size (M_rd v)), .int (M_at (M_rd v)), .int (M_place (M_rd v)), .int (M_sort (M_rd v)), .int (M_value (M_rd v)), .int (M_fault (M_rd v)), .int (M_faultPlace (M_rd v)), .int (M_lastFault (M_lf v)), .int (M_lastPlace (M_lf v)), .ref (q 15), .ref (q 16), .ref (q 17), .ref (q 18), .int (M_hasImage (M_im v)), .int (M_spanNow (M_rn v)), .ref (q 19), .int x11, .int (M_alonePlace (M_al v)), .int (M_aloneSteps (M_al v)), .int (M_aloneOut (M_al v)), .ref (q 20), .ref (q 21), .ref (q 22), .ref (q 23), .int (M_shotAlarm (M_ex v)), .int (M_drawn (M_ex v))]), ((q 1), aI K 700 (M_tape (M_tp v))), ((q 2), aI K 20 (M_number (M_cd v))), ((q 3), aZ K 5 (M_isTold (M_rd v))), ((q 4), aI K 80 (M_codeSort (M_cd v))), ((q 5), aI K 80 (M_codeA (M_cd v))), ((q 6), aI K 80 (M_codeB (M_cd v))), ((q 7), aI K 80 (M_codeC (M_cd v))), ((q 8), aI K 80 (M_codeName (M_cd v))), ((q 9), aI K 80 (M_codePlace (M_cd v))), ((q 10), aI K 80 (M_codeTo (M_cd v))), ((q 11), aI K 280 (M_labelName (M_cd v))), ((q 12), aI K 280 (M_labelAt (M_cd v))), ((q 13), aI K 64 (M_data (M_cd v))), ((q 14), aZ K 32 (M_hasData (M_rd v))), ((q 15), aI K 314 (M_s (M_rn v))), ((q 16), aI K 314 (M_aside (M_ex v))), ((q 17), aI K 314 (M_further (M_ex v))), ((q 18), aI K 314 (M_image (M_im v))), ((q 19), aI K 3 (M_sizeNow (M_rn v))), ((q 20), aI K 8 (M_aloneRegister (M_al v))), ((q 21), aI K 4 (M_aloneReal (M_al v))), ((q 22), aI K 32 (M_aloneMemory (M_al v))), ((q 23), aI K 999 (M_aloneOutput (M_al v)))]) cx cf_X10 0 33 rfl (by decide) (Nat.le_of_ble_eq_true rfl) rfl pfd_I wd_1349 dX10_stepped_58 rfl ?_
  refine r_iconst (pc := 61) cx dX10_stepped_61 ic_0 ?_
  refine r_istore (pc := 62) (loc' := [(7, .int (0 : Int32)), (6, .int x10), (5, .int x6), (4, .int x5), (3, .int x4), (2, .int x2), (0, .ref (q 0)), (1, .int a1)]) cx dX10_stepped_62 (by decide) rfl ?_
  refine r_iload_n (pc := 64) cx dX10_stepped_64 4 rfl ?_
  replace hf := nm_of hf
  obtain ⟨J14, eJ14, hf⟩ := hf
  have hJ14 : ∀ (x12 : Int32) (v13 : T_M), J14 x12 v13 = some (r_, o_v) → WW p l e rm_M_stepped s m args below meth c D A 8 0 0 (MQ below (QI D K A r_ (cl_M K q o_v)) args s 0 0 A) ([((q 0), ob 9 [.int (M_thrown v13), .ref (q 1), .int (M_taped (M_tp v13)), .ref (q 2), .ref (q 3), .ref (q 4), .ref (q 5), .ref (q 6), .ref (q 7), .ref (q 8), .ref (q 9), .ref (q 10), .ref (q 11), .ref (q 12), .ref (q 13), .ref (q 14), .int (M_lines (M_rd v13)), .int (M_size (M_rd v13)), .int (M_at (M_rd v13)), .int (M_place (M_rd v13)), .int (M_sort (M_rd v13)), .int (M_value (M_rd v13)), .int (M_fault (M_rd v13)), .int (M_faultPlace (M_rd v13)), .int (M_lastFault (M_lf v13)), .int (M_lastPlace (M_lf v13)), .ref (q 15), .ref (q 16), .ref (q 17), .ref (q 18), .int (M_hasImage (M_im v13)), .int (M_spanNow (M_rn v13)), .ref (q 19), .int (M_placeThen (M_rn v13)), .int (M_alonePlace (M_al v13)), .int (M_aloneSteps (M_al v13)), .int (M_aloneOut (M_al v13)), .ref (q 20), .ref (q 21), .ref (q 22), .ref (q 23), .int (M_shotAlarm (M_ex v13)), .int (M_drawn (M_ex v13))]), ((q 1), aI K 700 (M_tape (M_tp v13))), ((q 2), aI K 20 (M_number (M_cd v13))), ((q 3), aZ K 5 (M_isTold (M_rd v13))), ((q 4), aI K 80 (M_codeSort (M_cd v13))), ((q 5), aI K 80 (M_codeA (M_cd v13))), ((q 6), aI K 80 (M_codeB (M_cd v13))), ((q 7), aI K 80 (M_codeC (M_cd v13))), ((q 8), aI K 80 (M_codeName (M_cd v13))), ((q 9), aI K 80 (M_codePlace (M_cd v13))), ((q 10), aI K 80 (M_codeTo (M_cd v13))), ((q 11), aI K 280 (M_labelName (M_cd v13))), ((q 12), aI K 280 (M_labelAt (M_cd v13))), ((q 13), aI K 64 (M_data (M_cd v13))), ((q 14), aZ K 32 (M_hasData (M_rd v13))), ((q 15), aI K 314 (M_s (M_rn v13))), ((q 16), aI K 314 (M_aside (M_ex v13))), ((q 17), aI K 314 (M_further (M_ex v13))), ((q 18), aI K 314 (M_image (M_im v13))), ((q 19), aI K 3 (M_sizeNow (M_rn v13))), ((q 20), aI K 8 (M_aloneRegister (M_al v13))), ((q 21), aI K 4 (M_aloneReal (M_al v13))), ((q 22), aI K 32 (M_aloneMemory (M_al v13))), ((q 23), aI K 999 (M_aloneOutput (M_al v13)))]) ([(0, .ref (q 0)), (1, .int a1), (7, .int x12)]) ([]) 686 := by
    clear hf
    intro x12 v13 hf
    rw [eJ14] at hf
    refine r_aload_n (pc := 686) cx dX10_stepped_686 0 rfl ?_
    refine r_get (pc := 687) cx cf_X10 0 26 rfl (by decide) rfl wd_1342 dX10_stepped_687 ?_
    refine r_iconst (pc := 690) cx dX10_stepped_690 ic_0 ?_
    refine r_iload_n (pc := 691) cx dX10_stepped_691 1 rfl ?_
    refine r_iadd (pc := 692) cx dX10_stepped_692 ?_
    refine r_aload_n (pc := 693) cx dX10_stepped_693 0 rfl ?_
    refine r_get (pc := 694) cx cf_X10 0 33 rfl (by decide) rfl wd_1349 dX10_stepped_694 ?_
    replace hf := nm_of hf
    obtain ⟨x15, ex15, hf⟩ := hf
    refine r_nm ex15 ?_
    replace hf := chk_of hf
    obtain ⟨h16, hf⟩ := hf
    replace hf := nm_of hf
    obtain ⟨f17, ef17, hf⟩ := hf
    refine r_iast (pc := 697) (ws' := [((q 0), ob 9 [.int (M_thrown v13), .ref (q 1), .int (M_taped (M_tp v13)), .ref (q 2), .ref (q 3), .ref (q 4), .ref (q 5), .ref (q 6), .ref (q 7), .ref (q 8), .ref (q 9), .ref (q 10), .ref (q 11), .ref (q 12), .ref (q 13), .ref (q 14), .int (M_lines (M_rd v13)), .int (M_size (M_rd v13)), .int (M_at (M_rd v13)), .int (M_place (M_rd v13)), .int (M_sort (M_rd v13)), .int (M_value (M_rd v13)), .int (M_fault (M_rd v13)), .int (M_faultPlace (M_rd v13)), .int (M_lastFault (M_lf v13)), .int (M_lastPlace (M_lf v13)), .ref (q 15), .ref (q 16), .ref (q 17), .ref (q 18), .int (M_hasImage (M_im v13)), .int (M_spanNow (M_rn v13)), .ref (q 19), .int (M_placeThen (M_rn v13)), .int (M_alonePlace (M_al v13)), .int (M_aloneSteps (M_al v13)), .int (M_aloneOut (M_al v13)), .ref (q 20), .ref (q 21), .ref (q 22), .ref (q 23), .int (M_shotAlarm (M_ex v13)), .int (M_drawn (M_ex v13))]), ((q 1), aI K 700 (M_tape (M_tp v13))), ((q 2), aI K 20 (M_number (M_cd v13))), ((q 3), aZ K 5 (M_isTold (M_rd v13))), ((q 4), aI K 80 (M_codeSort (M_cd v13))), ((q 5), aI K 80 (M_codeA (M_cd v13))), ((q 6), aI K 80 (M_codeB (M_cd v13))), ((q 7), aI K 80 (M_codeC (M_cd v13))), ((q 8), aI K 80 (M_codeName (M_cd v13))), ((q 9), aI K 80 (M_codePlace (M_cd v13))), ((q 10), aI K 80 (M_codeTo (M_cd v13))), ((q 11), aI K 280 (M_labelName (M_cd v13))), ((q 12), aI K 280 (M_labelAt (M_cd v13))), ((q 13), aI K 64 (M_data (M_cd v13))), ((q 14), aZ K 32 (M_hasData (M_rd v13))), ((q 15), aI K 314 f17), ((q 16), aI K 314 (M_aside (M_ex v13))), ((q 17), aI K 314 (M_further (M_ex v13))), ((q 18), aI K 314 (M_image (M_im v13))), ((q 19), aI K 3 (M_sizeNow (M_rn v13))), ((q 20), aI K 8 (M_aloneRegister (M_al v13))), ((q 21), aI K 4 (M_aloneReal (M_al v13))), ((q 22), aI K 32 (M_aloneMemory (M_al v13))), ((q 23), aI K 999 (M_aloneOutput (M_al v13)))]) cx 15 rfl h16 dX10_stepped_697 ef17 rfl ?_
    refine r_aload_n (pc := 698) cx dX10_stepped_698 0 rfl ?_
    refine r_get (pc := 699) cx cf_X10 0 26 rfl (by decide) rfl wd_1342 dX10_stepped_699 ?_
    refine r_iconst (pc := 702) cx dX10_stepped_702 ic_2 ?_
    refine r_iload_n (pc := 703) cx dX10_stepped_703 1 rfl ?_
    refine r_iadd (pc := 704) cx dX10_stepped_704 ?_
    replace hf := nm_of hf
    obtain ⟨x18, ex18, hf⟩ := hf
    refine r_nm ex18 ?_
    refine r_dup2 (pc := 705) cx dX10_stepped_705 rfl rfl ?_
    replace hf := chk_of hf
    obtain ⟨h19, hf⟩ := hf
    refine r_iald (pc := 706) cx 15 rfl h19 dX10_stepped_706 ?_
    refine r_iconst (pc := 707) cx dX10_stepped_707 ic_1 ?_
    refine r_iadd (pc := 708) cx dX10_stepped_708 ?_
    replace hf := nm_of hf
    obtain ⟨x20, ex20, hf⟩ := hf
    refine r_nm ex20 ?_
    replace hf := chk_of hf
    obtain ⟨h21, hf⟩ := hf
    replace hf := nm_of hf
    obtain ⟨f22, ef22, hf⟩ := hf
    refine r_iast (pc := 709) (ws' := [((q 0), ob 9 [.int (M_thrown v13), .ref (q 1), .int (M_taped (M_tp v13)), .ref (q 2), .ref (q 3), .ref (q 4), .ref (q 5), .ref (q 6), .ref (q 7), .ref (q 8), .ref (q 9), .ref (q 10), .ref (q 11), .ref (q 12), .ref (q 13), .ref (q 14), .int (M_lines (M_rd v13)), .int (M_size (M_rd v13)), .int (M_at (M_rd v13)), .int (M_place (M_rd v13)), .int (M_sort (M_rd v13)), .int (M_value (M_rd v13)), .int (M_fault (M_rd v13)), .int (M_faultPlace (M_rd v13)), .int (M_lastFault (M_lf v13)), .int (M_lastPlace (M_lf v13)), .ref (q 15), .ref (q 16), .ref (q 17), .ref (q 18), .int (M_hasImage (M_im v13)), .int (M_spanNow (M_rn v13)), .ref (q 19), .int (M_placeThen (M_rn v13)), .int (M_alonePlace (M_al v13)), .int (M_aloneSteps (M_al v13)), .int (M_aloneOut (M_al v13)), .ref (q 20), .ref (q 21), .ref (q 22), .ref (q 23), .int (M_shotAlarm (M_ex v13)), .int (M_drawn (M_ex v13))]), ((q 1), aI K 700 (M_tape (M_tp v13))), ((q 2), aI K 20 (M_number (M_cd v13))), ((q 3), aZ K 5 (M_isTold (M_rd v13))), ((q 4), aI K 80 (M_codeSort (M_cd v13))), ((q 5), aI K 80 (M_codeA (M_cd v13))), ((q 6), aI K 80 (M_codeB (M_cd v13))), ((q 7), aI K 80 (M_codeC (M_cd v13))), ((q 8), aI K 80 (M_codeName (M_cd v13))), ((q 9), aI K 80 (M_codePlace (M_cd v13))), ((q 10), aI K 80 (M_codeTo (M_cd v13))), ((q 11), aI K 280 (M_labelName (M_cd v13))), ((q 12), aI K 280 (M_labelAt (M_cd v13))), ((q 13), aI K 64 (M_data (M_cd v13))), ((q 14), aZ K 32 (M_hasData (M_rd v13))), ((q 15), aI K 314 f22), ((q 16), aI K 314 (M_aside (M_ex v13))), ((q 17), aI K 314 (M_further (M_ex v13))), ((q 18), aI K 314 (M_image (M_im v13))), ((q 19), aI K 3 (M_sizeNow (M_rn v13))), ((q 20), aI K 8 (M_aloneRegister (M_al v13))), ((q 21), aI K 4 (M_aloneReal (M_al v13))), ((q 22), aI K 32 (M_aloneMemory (M_al v13))), ((q 23), aI K 999 (M_aloneOutput (M_al v13)))]) cx 15 rfl h21 dX10_stepped_709 ef22 rfl ?_
    refine r_aload_n (pc := 710) cx dX10_stepped_710 0 rfl ?_
    replace hf := bd_of hf
    obtain ⟨v23, hc24, hf⟩ := hf
    refine r_Vv (pc := 711) (ws' := [((q 0), ob 9 [.int (M_thrown v23), .ref (q 1), .int (M_taped (M_tp v23)), .ref (q 2), .ref (q 3), .ref (q 4), .ref (q 5), .ref (q 6), .ref (q 7), .ref (q 8), .ref (q 9), .ref (q 10), .ref (q 11), .ref (q 12), .ref (q 13), .ref (q 14), .int (M_lines (M_rd v23)), .int (M_size (M_rd v23)), .int (M_at (M_rd v23)), .int (M_place (M_rd v23)), .int (M_sort (M_rd v23)), .int (M_value (M_rd v23)), .int (M_fault (M_rd v23)), .int (M_faultPlace (M_rd v23)), .int (M_lastFault (M_lf v23)), .int (M_lastPlace (M_lf v23)), .ref (q 15), .ref (q 16), .ref (q 17), .ref (q 18), .int (M_hasImage (M_im v23)), .int (M_spanNow (M_rn v23)), .ref (q 19), .int (M_placeThen (M_rn v23)), .int (M_alonePlace (M_al v23)), .int (M_aloneSteps (M_al v23)), .int (M_aloneOut (M_al v23)), .ref (q 20), .ref (q 21), .ref (q 22), .ref (q 23), .int (M_shotAlarm (M_ex v23)), .int (M_drawn (M_ex v23))]), ((q 1), aI K 700 (M_tape (M_tp v23))), ((q 2), aI K 20 (M_number (M_cd v23))), ((q 3), aZ K 5 (M_isTold (M_rd v23))), ((q 4), aI K 80 (M_codeSort (M_cd v23))), ((q 5), aI K 80 (M_codeA (M_cd v23))), ((q 6), aI K 80 (M_codeB (M_cd v23))), ((q 7), aI K 80 (M_codeC (M_cd v23))), ((q 8), aI K 80 (M_codeName (M_cd v23))), ((q 9), aI K 80 (M_codePlace (M_cd v23))), ((q 10), aI K 80 (M_codeTo (M_cd v23))), ((q 11), aI K 280 (M_labelName (M_cd v23))), ((q 12), aI K 280 (M_labelAt (M_cd v23))), ((q 13), aI K 64 (M_data (M_cd v23))), ((q 14), aZ K 32 (M_hasData (M_rd v23))), ((q 15), aI K 314 (M_s (M_rn v23))), ((q 16), aI K 314 (M_aside (M_ex v23))), ((q 17), aI K 314 (M_further (M_ex v23))), ((q 18), aI K 314 (M_image (M_im v23))), ((q 19), aI K 3 (M_sizeNow (M_rn v23))), ((q 20), aI K 8 (M_aloneRegister (M_al v23))), ((q 21), aI K 4 (M_aloneReal (M_al v23))), ((q 22), aI K 32 (M_aloneMemory (M_al v23))), ((q 23), aI K 999 (M_aloneOutput (M_al v23)))]) (wc := [((q 0), ob 9 [.int (M_thrown v13), .ref (q 1), .int (M_taped (M_tp v13)), .ref (q 2), .ref (q 3), .ref (q 4), .ref (q 5), .ref (q 6), .ref (q 7), .ref (q 8), .ref (q 9), .ref (q 10), .ref (q 11), .ref (q 12), .ref (q 13), .ref (q 14), .int (M_lines (M_rd v13)), .int (M_size (M_rd v13)), .int (M_at (M_rd v13)), .int (M_place (M_rd v13)), .int (M_sort (M_rd v13)), .int (M_value (M_rd v13)), .int (M_fault (M_rd v13)), .int (M_faultPlace (M_rd v13)), .int (M_lastFault (M_lf v13)), .int (M_lastPlace (M_lf v13)), .ref (q 15), .ref (q 16), .ref (q 17), .ref (q 18), .int (M_hasImage (M_im v13)), .int (M_spanNow (M_rn v13)), .ref (q 19), .int (M_placeThen (M_rn v13)), .int (M_alonePlace (M_al v13)), .int (M_aloneSteps (M_al v13)), .int (M_aloneOut (M_al v13)), .ref (q 20), .ref (q 21), .ref (q 22), .ref (q 23), .int (M_shotAlarm (M_ex v13)), .int (M_drawn (M_ex v13))]), ((q 1), aI K 700 (M_tape (M_tp v13))), ((q 2), aI K 20 (M_number (M_cd v13))), ((q 3), aZ K 5 (M_isTold (M_rd v13))), ((q 4), aI K 80 (M_codeSort (M_cd v13))), ((q 5), aI K 80 (M_codeA (M_cd v13))), ((q 6), aI K 80 (M_codeB (M_cd v13))), ((q 7), aI K 80 (M_codeC (M_cd v13))), ((q 8), aI K 80 (M_codeName (M_cd v13))), ((q 9), aI K 80 (M_codePlace (M_cd v13))), ((q 10), aI K 80 (M_codeTo (M_cd v13))), ((q 11), aI K 280 (M_labelName (M_cd v13))), ((q 12), aI K 280 (M_labelAt (M_cd v13))), ((q 13), aI K 64 (M_data (M_cd v13))), ((q 14), aZ K 32 (M_hasData (M_rd v13))), ((q 15), aI K 314 f22), ((q 16), aI K 314 (M_aside (M_ex v13))), ((q 17), aI K 314 (M_further (M_ex v13))), ((q 18), aI K 314 (M_image (M_im v13))), ((q 19), aI K 3 (M_sizeNow (M_rn v13))), ((q 20), aI K 8 (M_aloneRegister (M_al v13))), ((q 21), aI K 4 (M_aloneReal (M_al v13))), ((q 22), aI K 32 (M_aloneMemory (M_al v13))), ((q 23), aI K 999 (M_aloneOutput (M_al v13)))]) (nn := 24) cx [] [] (m_M_sticks l D K q ((M_tp v13), (M_rd v13), (M_lf v13), (M_cd v13), (f22, (M_spanNow (M_rn v13)), (M_sizeNow (M_rn v13)), (M_placeThen (M_rn v13))), (M_ex v13), (M_im v13), (M_al v13), (M_thrown v13)) hc24) (by (try simp only [cl_M, M_tape_mk, M_taped_mk, M_tp_mk, M_lines_mk, M_size_mk, M_at_mk, M_place_mk, M_sort_mk, M_value_mk, M_fault_mk, M_faultPlace_mk, M_isTold_mk, M_hasData_mk, M_rd_mk, M_lastFault_mk, M_lastPlace_mk, M_lf_mk, M_number_mk, M_codeSort_mk, M_codeA_mk, M_codeB_mk, M_codeC_mk, M_codeName_mk, M_codePlace_mk, M_codeTo_mk, M_labelName_mk, M_labelAt_mk, M_data_mk, M_cd_mk, M_s_mk, M_spanNow_mk, M_sizeNow_mk, M_placeThen_mk, M_rn_mk, M_aside_mk, M_further_mk, M_shotAlarm_mk, M_drawn_mk, M_ex_mk, M_image_mk, M_hasImage_mk, M_im_mk, M_alonePlace_mk, M_aloneSteps_mk, M_aloneOut_mk, M_aloneRegister_mk, M_aloneReal_mk, M_aloneMemory_mk, M_aloneOutput_mk, M_al_mk, M_thrown_mk, List.cons_append, List.nil_append, List.append_nil]) <;> rfl) yv_X10_sticks wd_1667 ⟨rfl, rfl⟩ (by decide) (fr_s (j := 0) rfl rfl rfl (fr_s (j := 1) rfl rfl rfl (fr_s (j := 2) rfl rfl rfl (fr_s (j := 3) rfl rfl rfl (fr_s (j := 4) rfl rfl rfl (fr_s (j := 5) rfl rfl rfl (fr_s (j := 6) rfl rfl rfl (fr_s (j := 7) rfl rfl rfl (fr_s (j := 8) rfl rfl rfl (fr_s (j := 9) rfl rfl rfl (fr_s (j := 10) rfl rfl rfl (fr_s (j := 11) rfl rfl rfl (fr_s (j := 12) rfl rfl rfl (fr_s (j := 13) rfl rfl rfl (fr_s (j := 14) rfl rfl rfl (fr_s (j := 15) rfl rfl rfl (fr_s (j := 16) rfl rfl rfl (fr_s (j := 17) rfl rfl rfl (fr_s (j := 18) rfl rfl rfl (fr_s (j := 19) rfl rfl rfl (fr_s (j := 20) rfl rfl rfl (fr_s (j := 21) rfl rfl rfl (fr_s (j := 22) rfl rfl rfl (fr_s (j := 23) rfl rfl rfl (fr_n))))))))))))))))))))))))) rfl (by decide) 0 rfl rfl rfl (Nat.le_of_ble_eq_true rfl) dX10_stepped_711 ?_
    refine r_iload (pc := 714) cx dX10_stepped_714 2 rfl ?_
    have hi := inj2 hf
    exact r_iret (pc := 716) cx hi.1 (by rw [← hi.2]; rfl) dX10_stepped_716
  by_cases h25 : x4 = (7 : Int32)
  · replace hf := ifp h25 hf
    refine r_tin (pc := 65) (tgt := 136) cx (7 : Int32) h25 dX10_stepped_65 (by decide) (by decide) rfl (by decide) ?_
    refine r_aload_n (pc := 136) cx dX10_stepped_136 6 rfl ?_
    refine r_get (pc := 137) cx cf_X10 0 26 rfl (by decide) rfl wd_1342 dX10_stepped_137 ?_
    refine r_iload (pc := 140) cx dX10_stepped_140 3 rfl ?_
    refine r_aload_n (pc := 142) cx dX10_stepped_142 6 rfl ?_
    refine r_get (pc := 143) cx cf_X10 0 6 rfl (by decide) rfl wd_1322 dX10_stepped_143 ?_
    refine r_iload_n (pc := 146) cx dX10_stepped_146 5 rfl ?_
    replace hf := chk_of hf
    obtain ⟨h26, hf⟩ := hf
    refine r_iald (pc := 147) cx 5 rfl h26 dX10_stepped_147 ?_
    refine r_iadd (pc := 148) cx dX10_stepped_148 ?_
    refine r_aload_n (pc := 149) cx dX10_stepped_149 6 rfl ?_
    refine r_get (pc := 150) cx cf_X10 0 7 rfl (by decide) rfl wd_1323 dX10_stepped_150 ?_
    refine r_iload_n (pc := 153) cx dX10_stepped_153 5 rfl ?_
    replace hf := chk_of hf
    obtain ⟨h27, hf⟩ := hf
    refine r_iald (pc := 154) cx 6 rfl h27 dX10_stepped_154 ?_
    replace hf := nm_of hf
    obtain ⟨x28, ex28, hf⟩ := hf
    refine r_nm ex28 ?_
    replace hf := chk_of hf
    obtain ⟨h29, hf⟩ := hf
    replace hf := nm_of hf
    obtain ⟨f30, ef30, hf⟩ := hf
    refine r_iast (pc := 155) (ws' := [((q 0), ob 9 [.int (M_thrown v), .ref (q 1), .int (M_taped (M_tp v)), .ref (q 2), .ref (q 3), .ref (q 4), .ref (q 5), .ref (q 6), .ref (q 7), .ref (q 8), .ref (q 9), .ref (q 10), .ref (q 11), .ref (q 12), .ref (q 13), .ref (q 14), .int (M_lines (M_rd v)), .int (M_size (M_rd v)), .int (M_at (M_rd v)), .int (M_place (M_rd v)), .int (M_sort (M_rd v)), .int (M_value (M_rd v)), .int (M_fault (M_rd v)), .int (M_faultPlace (M_rd v)), .int (M_lastFault (M_lf v)), .int (M_lastPlace (M_lf v)), .ref (q 15), .ref (q 16), .ref (q 17), .ref (q 18), .int (M_hasImage (M_im v)), .int (M_spanNow (M_rn v)), .ref (q 19), .int x11, .int (M_alonePlace (M_al v)), .int (M_aloneSteps (M_al v)), .int (M_aloneOut (M_al v)), .ref (q 20), .ref (q 21), .ref (q 22), .ref (q 23), .int (M_shotAlarm (M_ex v)), .int (M_drawn (M_ex v))]), ((q 1), aI K 700 (M_tape (M_tp v))), ((q 2), aI K 20 (M_number (M_cd v))), ((q 3), aZ K 5 (M_isTold (M_rd v))), ((q 4), aI K 80 (M_codeSort (M_cd v))), ((q 5), aI K 80 (M_codeA (M_cd v))), ((q 6), aI K 80 (M_codeB (M_cd v))), ((q 7), aI K 80 (M_codeC (M_cd v))), ((q 8), aI K 80 (M_codeName (M_cd v))), ((q 9), aI K 80 (M_codePlace (M_cd v))), ((q 10), aI K 80 (M_codeTo (M_cd v))), ((q 11), aI K 280 (M_labelName (M_cd v))), ((q 12), aI K 280 (M_labelAt (M_cd v))), ((q 13), aI K 64 (M_data (M_cd v))), ((q 14), aZ K 32 (M_hasData (M_rd v))), ((q 15), aI K 314 f30), ((q 16), aI K 314 (M_aside (M_ex v))), ((q 17), aI K 314 (M_further (M_ex v))), ((q 18), aI K 314 (M_image (M_im v))), ((q 19), aI K 3 (M_sizeNow (M_rn v))), ((q 20), aI K 8 (M_aloneRegister (M_al v))), ((q 21), aI K 4 (M_aloneReal (M_al v))), ((q 22), aI K 32 (M_aloneMemory (M_al v))), ((q 23), aI K 999 (M_aloneOutput (M_al v)))]) cx 15 rfl h29 dX10_stepped_155 ef30 rfl ?_
    refine r_goto (pc := 156) (tgt := 686) cx dX10_stepped_156 (by decide) ?_
    refine r_loc (loc' := [(0, .ref (q 0)), (1, .int a1), (7, .int (0 : Int32))]) [6, 7, 0] rfl ?_
    exact hJ14 _ _ hf
  · replace hf := ifn h25 hf
    by_cases h31 : x4 = (8 : Int32)
    · replace hf := ifp h31 hf
      refine r_tin (pc := 65) (tgt := 159) cx (8 : Int32) h31 dX10_stepped_65 (by decide) (by decide) rfl (by decide) ?_
      refine r_aload_n (pc := 159) cx dX10_stepped_159 6 rfl ?_
      refine r_get (pc := 160) cx cf_X10 0 26 rfl (by decide) rfl wd_1342 dX10_stepped_160 ?_
      refine r_iload (pc := 163) cx dX10_stepped_163 3 rfl ?_
      refine r_aload_n (pc := 165) cx dX10_stepped_165 6 rfl ?_
      refine r_get (pc := 166) cx cf_X10 0 6 rfl (by decide) rfl wd_1322 dX10_stepped_166 ?_
      refine r_iload_n (pc := 169) cx dX10_stepped_169 5 rfl ?_
      replace hf := chk_of hf
      obtain ⟨h32, hf⟩ := hf
      refine r_iald (pc := 170) cx 5 rfl h32 dX10_stepped_170 ?_
      refine r_iadd (pc := 171) cx dX10_stepped_171 ?_
      refine r_iload (pc := 172) cx dX10_stepped_172 1 rfl ?_
      refine r_aload_n (pc := 174) cx dX10_stepped_174 6 rfl ?_
      refine r_get (pc := 175) cx cf_X10 0 26 rfl (by decide) rfl wd_1342 dX10_stepped_175 ?_
      refine r_iload (pc := 178) cx dX10_stepped_178 3 rfl ?_
      refine r_aload_n (pc := 180) cx dX10_stepped_180 6 rfl ?_
      refine r_get (pc := 181) cx cf_X10 0 8 rfl (by decide) rfl wd_1324 dX10_stepped_181 ?_
      refine r_iload_n (pc := 184) cx dX10_stepped_184 5 rfl ?_
      replace hf := chk_of hf
      obtain ⟨h33, hf⟩ := hf
      refine r_iald (pc := 185) cx 7 rfl h33 dX10_stepped_185 ?_
      refine r_iadd (pc := 186) cx dX10_stepped_186 ?_
      replace hf := chk_of hf
      obtain ⟨h34, hf⟩ := hf
      refine r_iald (pc := 187) cx 15 rfl h34 dX10_stepped_187 ?_
      refine r_iadd (pc := 188) cx dX10_stepped_188 ?_
      replace hf := nm_of hf
      obtain ⟨x35, ex35, hf⟩ := hf
      refine r_nm ex35 ?_
      replace hf := chk_of hf
      obtain ⟨h36, hf⟩ := hf
      replace hf := nm_of hf
      obtain ⟨f37, ef37, hf⟩ := hf
      refine r_iast (pc := 189) (ws' := [((q 0), ob 9 [.int (M_thrown v), .ref (q 1), .int (M_taped (M_tp v)), .ref (q 2), .ref (q 3), .ref (q 4), .ref (q 5), .ref (q 6), .ref (q 7), .ref (q 8), .ref (q 9), .ref (q 10), .ref (q 11), .ref (q 12), .ref (q 13), .ref (q 14), .int (M_lines (M_rd v)), .int (M_size (M_rd v)), .int (M_at (M_rd v)), .int (M_place (M_rd v)), .int (M_sort (M_rd v)), .int (M_value (M_rd v)), .int (M_fault (M_rd v)), .int (M_faultPlace (M_rd v)), .int (M_lastFault (M_lf v)), .int (M_lastPlace (M_lf v)), .ref (q 15), .ref (q 16), .ref (q 17), .ref (q 18), .int (M_hasImage (M_im v)), .int (M_spanNow (M_rn v)), .ref (q 19), .int x11, .int (M_alonePlace (M_al v)), .int (M_aloneSteps (M_al v)), .int (M_aloneOut (M_al v)), .ref (q 20), .ref (q 21), .ref (q 22), .ref (q 23), .int (M_shotAlarm (M_ex v)), .int (M_drawn (M_ex v))]), ((q 1), aI K 700 (M_tape (M_tp v))), ((q 2), aI K 20 (M_number (M_cd v))), ((q 3), aZ K 5 (M_isTold (M_rd v))), ((q 4), aI K 80 (M_codeSort (M_cd v))), ((q 5), aI K 80 (M_codeA (M_cd v))), ((q 6), aI K 80 (M_codeB (M_cd v))), ((q 7), aI K 80 (M_codeC (M_cd v))), ((q 8), aI K 80 (M_codeName (M_cd v))), ((q 9), aI K 80 (M_codePlace (M_cd v))), ((q 10), aI K 80 (M_codeTo (M_cd v))), ((q 11), aI K 280 (M_labelName (M_cd v))), ((q 12), aI K 280 (M_labelAt (M_cd v))), ((q 13), aI K 64 (M_data (M_cd v))), ((q 14), aZ K 32 (M_hasData (M_rd v))), ((q 15), aI K 314 f37), ((q 16), aI K 314 (M_aside (M_ex v))), ((q 17), aI K 314 (M_further (M_ex v))), ((q 18), aI K 314 (M_image (M_im v))), ((q 19), aI K 3 (M_sizeNow (M_rn v))), ((q 20), aI K 8 (M_aloneRegister (M_al v))), ((q 21), aI K 4 (M_aloneReal (M_al v))), ((q 22), aI K 32 (M_aloneMemory (M_al v))), ((q 23), aI K 999 (M_aloneOutput (M_al v)))]) cx 15 rfl h36 dX10_stepped_189 ef37 rfl ?_
      refine r_goto (pc := 190) (tgt := 686) cx dX10_stepped_190 (by decide) ?_
      refine r_loc (loc' := [(0, .ref (q 0)), (1, .int a1), (7, .int (0 : Int32))]) [6, 7, 0] rfl ?_
      exact hJ14 _ _ hf
    · replace hf := ifn h31 hf
      by_cases h38 : x4 = (9 : Int32)
      · replace hf := ifp h38 hf
        refine r_tin (pc := 65) (tgt := 193) cx (9 : Int32) h38 dX10_stepped_65 (by decide) (by decide) rfl (by decide) ?_
        refine r_aload_n (pc := 193) cx dX10_stepped_193 6 rfl ?_
        refine r_get (pc := 194) cx cf_X10 0 26 rfl (by decide) rfl wd_1342 dX10_stepped_194 ?_
        refine r_iload (pc := 197) cx dX10_stepped_197 3 rfl ?_
        refine r_aload_n (pc := 199) cx dX10_stepped_199 6 rfl ?_
        refine r_get (pc := 200) cx cf_X10 0 6 rfl (by decide) rfl wd_1322 dX10_stepped_200 ?_
        refine r_iload_n (pc := 203) cx dX10_stepped_203 5 rfl ?_
        replace hf := chk_of hf
        obtain ⟨h39, hf⟩ := hf
        refine r_iald (pc := 204) cx 5 rfl h39 dX10_stepped_204 ?_
        refine r_iadd (pc := 205) cx dX10_stepped_205 ?_
        refine r_iload (pc := 206) cx dX10_stepped_206 1 rfl ?_
        refine r_aload_n (pc := 208) cx dX10_stepped_208 6 rfl ?_
        refine r_get (pc := 209) cx cf_X10 0 26 rfl (by decide) rfl wd_1342 dX10_stepped_209 ?_
        refine r_iload (pc := 212) cx dX10_stepped_212 3 rfl ?_
        refine r_aload_n (pc := 214) cx dX10_stepped_214 6 rfl ?_
        refine r_get (pc := 215) cx cf_X10 0 8 rfl (by decide) rfl wd_1324 dX10_stepped_215 ?_
        refine r_iload_n (pc := 218) cx dX10_stepped_218 5 rfl ?_
        replace hf := chk_of hf
        obtain ⟨h40, hf⟩ := hf
        refine r_iald (pc := 219) cx 7 rfl h40 dX10_stepped_219 ?_
        refine r_iadd (pc := 220) cx dX10_stepped_220 ?_
        replace hf := chk_of hf
        obtain ⟨h41, hf⟩ := hf
        refine r_iald (pc := 221) cx 15 rfl h41 dX10_stepped_221 ?_
        refine r_isub (pc := 222) cx dX10_stepped_222 ?_
        replace hf := nm_of hf
        obtain ⟨x42, ex42, hf⟩ := hf
        refine r_nm ex42 ?_
        replace hf := chk_of hf
        obtain ⟨h43, hf⟩ := hf
        replace hf := nm_of hf
        obtain ⟨f44, ef44, hf⟩ := hf
        refine r_iast (pc := 223) (ws' := [((q 0), ob 9 [.int (M_thrown v), .ref (q 1), .int (M_taped (M_tp v)), .ref (q 2), .ref (q 3), .ref (q 4), .ref (q 5), .ref (q 6), .ref (q 7), .ref (q 8), .ref (q 9), .ref (q 10), .ref (q 11), .ref (q 12), .ref (q 13), .ref (q 14), .int (M_lines (M_rd v)), .int (M_size (M_rd v)), .int (M_at (M_rd v)), .int (M_place (M_rd v)), .int (M_sort (M_rd v)), .int (M_value (M_rd v)), .int (M_fault (M_rd v)), .int (M_faultPlace (M_rd v)), .int (M_lastFault (M_lf v)), .int (M_lastPlace (M_lf v)), .ref (q 15), .ref (q 16), .ref (q 17), .ref (q 18), .int (M_hasImage (M_im v)), .int (M_spanNow (M_rn v)), .ref (q 19), .int x11, .int (M_alonePlace (M_al v)), .int (M_aloneSteps (M_al v)), .int (M_aloneOut (M_al v)), .ref (q 20), .ref (q 21), .ref (q 22), .ref (q 23), .int (M_shotAlarm (M_ex v)), .int (M_drawn (M_ex v))]), ((q 1), aI K 700 (M_tape (M_tp v))), ((q 2), aI K 20 (M_number (M_cd v))), ((q 3), aZ K 5 (M_isTold (M_rd v))), ((q 4), aI K 80 (M_codeSort (M_cd v))), ((q 5), aI K 80 (M_codeA (M_cd v))), ((q 6), aI K 80 (M_codeB (M_cd v))), ((q 7), aI K 80 (M_codeC (M_cd v))), ((q 8), aI K 80 (M_codeName (M_cd v))), ((q 9), aI K 80 (M_codePlace (M_cd v))), ((q 10), aI K 80 (M_codeTo (M_cd v))), ((q 11), aI K 280 (M_labelName (M_cd v))), ((q 12), aI K 280 (M_labelAt (M_cd v))), ((q 13), aI K 64 (M_data (M_cd v))), ((q 14), aZ K 32 (M_hasData (M_rd v))), ((q 15), aI K 314 f44), ((q 16), aI K 314 (M_aside (M_ex v))), ((q 17), aI K 314 (M_further (M_ex v))), ((q 18), aI K 314 (M_image (M_im v))), ((q 19), aI K 3 (M_sizeNow (M_rn v))), ((q 20), aI K 8 (M_aloneRegister (M_al v))), ((q 21), aI K 4 (M_aloneReal (M_al v))), ((q 22), aI K 32 (M_aloneMemory (M_al v))), ((q 23), aI K 999 (M_aloneOutput (M_al v)))]) cx 15 rfl h43 dX10_stepped_223 ef44 rfl ?_
        refine r_goto (pc := 224) (tgt := 686) cx dX10_stepped_224 (by decide) ?_
        refine r_loc (loc' := [(0, .ref (q 0)), (1, .int a1), (7, .int (0 : Int32))]) [6, 7, 0] rfl ?_
        exact hJ14 _ _ hf
      · replace hf := ifn h38 hf
        by_cases h45 : x4 = (10 : Int32)
        · replace hf := ifp h45 hf
          refine r_tin (pc := 65) (tgt := 227) cx (10 : Int32) h45 dX10_stepped_65 (by decide) (by decide) rfl (by decide) ?_
          refine r_aload_n (pc := 227) cx dX10_stepped_227 6 rfl ?_
          refine r_get (pc := 228) cx cf_X10 0 26 rfl (by decide) rfl wd_1342 dX10_stepped_228 ?_
          refine r_iload (pc := 231) cx dX10_stepped_231 3 rfl ?_
          refine r_aload_n (pc := 233) cx dX10_stepped_233 6 rfl ?_
          refine r_get (pc := 234) cx cf_X10 0 6 rfl (by decide) rfl wd_1322 dX10_stepped_234 ?_
          refine r_iload_n (pc := 237) cx dX10_stepped_237 5 rfl ?_
          replace hf := chk_of hf
          obtain ⟨h46, hf⟩ := hf
          refine r_iald (pc := 238) cx 5 rfl h46 dX10_stepped_238 ?_
          refine r_iadd (pc := 239) cx dX10_stepped_239 ?_
          refine r_iload (pc := 240) cx dX10_stepped_240 1 rfl ?_
          refine r_aload_n (pc := 242) cx dX10_stepped_242 6 rfl ?_
          refine r_get (pc := 243) cx cf_X10 0 26 rfl (by decide) rfl wd_1342 dX10_stepped_243 ?_
          refine r_iload (pc := 246) cx dX10_stepped_246 3 rfl ?_
          refine r_aload_n (pc := 248) cx dX10_stepped_248 6 rfl ?_
          refine r_get (pc := 249) cx cf_X10 0 8 rfl (by decide) rfl wd_1324 dX10_stepped_249 ?_
          refine r_iload_n (pc := 252) cx dX10_stepped_252 5 rfl ?_
          replace hf := chk_of hf
          obtain ⟨h47, hf⟩ := hf
          refine r_iald (pc := 253) cx 7 rfl h47 dX10_stepped_253 ?_
          refine r_iadd (pc := 254) cx dX10_stepped_254 ?_
          replace hf := chk_of hf
          obtain ⟨h48, hf⟩ := hf
          refine r_iald (pc := 255) cx 15 rfl h48 dX10_stepped_255 ?_
          refine r_imul (pc := 256) cx dX10_stepped_256 ?_
          replace hf := nm_of hf
          obtain ⟨x49, ex49, hf⟩ := hf
          refine r_nm ex49 ?_
          replace hf := chk_of hf
          obtain ⟨h50, hf⟩ := hf
          replace hf := nm_of hf
          obtain ⟨f51, ef51, hf⟩ := hf
          refine r_iast (pc := 257) (ws' := [((q 0), ob 9 [.int (M_thrown v), .ref (q 1), .int (M_taped (M_tp v)), .ref (q 2), .ref (q 3), .ref (q 4), .ref (q 5), .ref (q 6), .ref (q 7), .ref (q 8), .ref (q 9), .ref (q 10), .ref (q 11), .ref (q 12), .ref (q 13), .ref (q 14), .int (M_lines (M_rd v)), .int (M_size (M_rd v)), .int (M_at (M_rd v)), .int (M_place (M_rd v)), .int (M_sort (M_rd v)), .int (M_value (M_rd v)), .int (M_fault (M_rd v)), .int (M_faultPlace (M_rd v)), .int (M_lastFault (M_lf v)), .int (M_lastPlace (M_lf v)), .ref (q 15), .ref (q 16), .ref (q 17), .ref (q 18), .int (M_hasImage (M_im v)), .int (M_spanNow (M_rn v)), .ref (q 19), .int x11, .int (M_alonePlace (M_al v)), .int (M_aloneSteps (M_al v)), .int (M_aloneOut (M_al v)), .ref (q 20), .ref (q 21), .ref (q 22), .ref (q 23), .int (M_shotAlarm (M_ex v)), .int (M_drawn (M_ex v))]), ((q 1), aI K 700 (M_tape (M_tp v))), ((q 2), aI K 20 (M_number (M_cd v))), ((q 3), aZ K 5 (M_isTold (M_rd v))), ((q 4), aI K 80 (M_codeSort (M_cd v))), ((q 5), aI K 80 (M_codeA (M_cd v))), ((q 6), aI K 80 (M_codeB (M_cd v))), ((q 7), aI K 80 (M_codeC (M_cd v))), ((q 8), aI K 80 (M_codeName (M_cd v))), ((q 9), aI K 80 (M_codePlace (M_cd v))), ((q 10), aI K 80 (M_codeTo (M_cd v))), ((q 11), aI K 280 (M_labelName (M_cd v))), ((q 12), aI K 280 (M_labelAt (M_cd v))), ((q 13), aI K 64 (M_data (M_cd v))), ((q 14), aZ K 32 (M_hasData (M_rd v))), ((q 15), aI K 314 f51), ((q 16), aI K 314 (M_aside (M_ex v))), ((q 17), aI K 314 (M_further (M_ex v))), ((q 18), aI K 314 (M_image (M_im v))), ((q 19), aI K 3 (M_sizeNow (M_rn v))), ((q 20), aI K 8 (M_aloneRegister (M_al v))), ((q 21), aI K 4 (M_aloneReal (M_al v))), ((q 22), aI K 32 (M_aloneMemory (M_al v))), ((q 23), aI K 999 (M_aloneOutput (M_al v)))]) cx 15 rfl h50 dX10_stepped_257 ef51 rfl ?_
          refine r_goto (pc := 258) (tgt := 686) cx dX10_stepped_258 (by decide) ?_
          refine r_loc (loc' := [(0, .ref (q 0)), (1, .int a1), (7, .int (0 : Int32))]) [6, 7, 0] rfl ?_
          exact hJ14 _ _ hf
        · replace hf := ifn h45 hf
          by_cases h52 : x4 = (11 : Int32)
          · replace hf := ifp h52 hf
            refine r_tin (pc := 65) (tgt := 261) cx (11 : Int32) h52 dX10_stepped_65 (by decide) (by decide) rfl (by decide) ?_
            refine r_aload_n (pc := 261) cx dX10_stepped_261 6 rfl ?_
            refine r_get (pc := 262) cx cf_X10 0 26 rfl (by decide) rfl wd_1342 dX10_stepped_262 ?_
            refine r_iload (pc := 265) cx dX10_stepped_265 3 rfl ?_
            refine r_aload_n (pc := 267) cx dX10_stepped_267 6 rfl ?_
            refine r_get (pc := 268) cx cf_X10 0 6 rfl (by decide) rfl wd_1322 dX10_stepped_268 ?_
            refine r_iload_n (pc := 271) cx dX10_stepped_271 5 rfl ?_
            replace hf := chk_of hf
            obtain ⟨h53, hf⟩ := hf
            refine r_iald (pc := 272) cx 5 rfl h53 dX10_stepped_272 ?_
            refine r_iadd (pc := 273) cx dX10_stepped_273 ?_
            refine r_iload (pc := 274) cx dX10_stepped_274 1 rfl ?_
            refine r_aload_n (pc := 276) cx dX10_stepped_276 6 rfl ?_
            refine r_get (pc := 277) cx cf_X10 0 26 rfl (by decide) rfl wd_1342 dX10_stepped_277 ?_
            refine r_iload (pc := 280) cx dX10_stepped_280 3 rfl ?_
            refine r_aload_n (pc := 282) cx dX10_stepped_282 6 rfl ?_
            refine r_get (pc := 283) cx cf_X10 0 8 rfl (by decide) rfl wd_1324 dX10_stepped_283 ?_
            refine r_iload_n (pc := 286) cx dX10_stepped_286 5 rfl ?_
            replace hf := chk_of hf
            obtain ⟨h54, hf⟩ := hf
            refine r_iald (pc := 287) cx 7 rfl h54 dX10_stepped_287 ?_
            refine r_iadd (pc := 288) cx dX10_stepped_288 ?_
            replace hf := chk_of hf
            obtain ⟨h55, hf⟩ := hf
            refine r_iald (pc := 289) cx 15 rfl h55 dX10_stepped_289 ?_
            refine r_ixor (pc := 290) cx dX10_stepped_290 ?_
            replace hf := nm_of hf
            obtain ⟨x56, ex56, hf⟩ := hf
            refine r_nm ex56 ?_
            replace hf := chk_of hf
            obtain ⟨h57, hf⟩ := hf
            replace hf := nm_of hf
            obtain ⟨f58, ef58, hf⟩ := hf
            refine r_iast (pc := 291) (ws' := [((q 0), ob 9 [.int (M_thrown v), .ref (q 1), .int (M_taped (M_tp v)), .ref (q 2), .ref (q 3), .ref (q 4), .ref (q 5), .ref (q 6), .ref (q 7), .ref (q 8), .ref (q 9), .ref (q 10), .ref (q 11), .ref (q 12), .ref (q 13), .ref (q 14), .int (M_lines (M_rd v)), .int (M_size (M_rd v)), .int (M_at (M_rd v)), .int (M_place (M_rd v)), .int (M_sort (M_rd v)), .int (M_value (M_rd v)), .int (M_fault (M_rd v)), .int (M_faultPlace (M_rd v)), .int (M_lastFault (M_lf v)), .int (M_lastPlace (M_lf v)), .ref (q 15), .ref (q 16), .ref (q 17), .ref (q 18), .int (M_hasImage (M_im v)), .int (M_spanNow (M_rn v)), .ref (q 19), .int x11, .int (M_alonePlace (M_al v)), .int (M_aloneSteps (M_al v)), .int (M_aloneOut (M_al v)), .ref (q 20), .ref (q 21), .ref (q 22), .ref (q 23), .int (M_shotAlarm (M_ex v)), .int (M_drawn (M_ex v))]), ((q 1), aI K 700 (M_tape (M_tp v))), ((q 2), aI K 20 (M_number (M_cd v))), ((q 3), aZ K 5 (M_isTold (M_rd v))), ((q 4), aI K 80 (M_codeSort (M_cd v))), ((q 5), aI K 80 (M_codeA (M_cd v))), ((q 6), aI K 80 (M_codeB (M_cd v))), ((q 7), aI K 80 (M_codeC (M_cd v))), ((q 8), aI K 80 (M_codeName (M_cd v))), ((q 9), aI K 80 (M_codePlace (M_cd v))), ((q 10), aI K 80 (M_codeTo (M_cd v))), ((q 11), aI K 280 (M_labelName (M_cd v))), ((q 12), aI K 280 (M_labelAt (M_cd v))), ((q 13), aI K 64 (M_data (M_cd v))), ((q 14), aZ K 32 (M_hasData (M_rd v))), ((q 15), aI K 314 f58), ((q 16), aI K 314 (M_aside (M_ex v))), ((q 17), aI K 314 (M_further (M_ex v))), ((q 18), aI K 314 (M_image (M_im v))), ((q 19), aI K 3 (M_sizeNow (M_rn v))), ((q 20), aI K 8 (M_aloneRegister (M_al v))), ((q 21), aI K 4 (M_aloneReal (M_al v))), ((q 22), aI K 32 (M_aloneMemory (M_al v))), ((q 23), aI K 999 (M_aloneOutput (M_al v)))]) cx 15 rfl h57 dX10_stepped_291 ef58 rfl ?_
            refine r_goto (pc := 292) (tgt := 686) cx dX10_stepped_292 (by decide) ?_
            refine r_loc (loc' := [(0, .ref (q 0)), (1, .int a1), (7, .int (0 : Int32))]) [6, 7, 0] rfl ?_
            exact hJ14 _ _ hf
          · replace hf := ifn h52 hf
            by_cases h59 : x4 = (12 : Int32)
            · replace hf := ifp h59 hf
              refine r_tin (pc := 65) (tgt := 295) cx (12 : Int32) h59 dX10_stepped_65 (by decide) (by decide) rfl (by decide) ?_
              refine r_iload_n (pc := 295) cx dX10_stepped_295 7 rfl ?_
              refine r_if_ne (pc := 296) (tgt := 307) cx dX10_stepped_296 (by decide) (fun h60 => ?_) (fun h60 => ?_)
              · replace hf := ifn h60 hf
                refine r_aload_n (pc := 307) cx dX10_stepped_307 6 rfl ?_
                refine r_iload_n (pc := 308) cx dX10_stepped_308 5 rfl ?_
                replace hf := bd2_of hf
                obtain ⟨r61, v62, hc63, hf⟩ := hf
                refine r_Vi (pc := 309) (ws' := [((q 0), ob 9 [.int (M_thrown v62), .ref (q 1), .int (M_taped (M_tp v62)), .ref (q 2), .ref (q 3), .ref (q 4), .ref (q 5), .ref (q 6), .ref (q 7), .ref (q 8), .ref (q 9), .ref (q 10), .ref (q 11), .ref (q 12), .ref (q 13), .ref (q 14), .int (M_lines (M_rd v62)), .int (M_size (M_rd v62)), .int (M_at (M_rd v62)), .int (M_place (M_rd v62)), .int (M_sort (M_rd v62)), .int (M_value (M_rd v62)), .int (M_fault (M_rd v62)), .int (M_faultPlace (M_rd v62)), .int (M_lastFault (M_lf v62)), .int (M_lastPlace (M_lf v62)), .ref (q 15), .ref (q 16), .ref (q 17), .ref (q 18), .int (M_hasImage (M_im v62)), .int (M_spanNow (M_rn v62)), .ref (q 19), .int (M_placeThen (M_rn v62)), .int (M_alonePlace (M_al v62)), .int (M_aloneSteps (M_al v62)), .int (M_aloneOut (M_al v62)), .ref (q 20), .ref (q 21), .ref (q 22), .ref (q 23), .int (M_shotAlarm (M_ex v62)), .int (M_drawn (M_ex v62))]), ((q 1), aI K 700 (M_tape (M_tp v62))), ((q 2), aI K 20 (M_number (M_cd v62))), ((q 3), aZ K 5 (M_isTold (M_rd v62))), ((q 4), aI K 80 (M_codeSort (M_cd v62))), ((q 5), aI K 80 (M_codeA (M_cd v62))), ((q 6), aI K 80 (M_codeB (M_cd v62))), ((q 7), aI K 80 (M_codeC (M_cd v62))), ((q 8), aI K 80 (M_codeName (M_cd v62))), ((q 9), aI K 80 (M_codePlace (M_cd v62))), ((q 10), aI K 80 (M_codeTo (M_cd v62))), ((q 11), aI K 280 (M_labelName (M_cd v62))), ((q 12), aI K 280 (M_labelAt (M_cd v62))), ((q 13), aI K 64 (M_data (M_cd v62))), ((q 14), aZ K 32 (M_hasData (M_rd v62))), ((q 15), aI K 314 (M_s (M_rn v62))), ((q 16), aI K 314 (M_aside (M_ex v62))), ((q 17), aI K 314 (M_further (M_ex v62))), ((q 18), aI K 314 (M_image (M_im v62))), ((q 19), aI K 3 (M_sizeNow (M_rn v62))), ((q 20), aI K 8 (M_aloneRegister (M_al v62))), ((q 21), aI K 4 (M_aloneReal (M_al v62))), ((q 22), aI K 32 (M_aloneMemory (M_al v62))), ((q 23), aI K 999 (M_aloneOutput (M_al v62)))]) (wc := [((q 0), ob 9 [.int (M_thrown v), .ref (q 1), .int (M_taped (M_tp v)), .ref (q 2), .ref (q 3), .ref (q 4), .ref (q 5), .ref (q 6), .ref (q 7), .ref (q 8), .ref (q 9), .ref (q 10), .ref (q 11), .ref (q 12), .ref (q 13), .ref (q 14), .int (M_lines (M_rd v)), .int (M_size (M_rd v)), .int (M_at (M_rd v)), .int (M_place (M_rd v)), .int (M_sort (M_rd v)), .int (M_value (M_rd v)), .int (M_fault (M_rd v)), .int (M_faultPlace (M_rd v)), .int (M_lastFault (M_lf v)), .int (M_lastPlace (M_lf v)), .ref (q 15), .ref (q 16), .ref (q 17), .ref (q 18), .int (M_hasImage (M_im v)), .int (M_spanNow (M_rn v)), .ref (q 19), .int x11, .int (M_alonePlace (M_al v)), .int (M_aloneSteps (M_al v)), .int (M_aloneOut (M_al v)), .ref (q 20), .ref (q 21), .ref (q 22), .ref (q 23), .int (M_shotAlarm (M_ex v)), .int (M_drawn (M_ex v))]), ((q 1), aI K 700 (M_tape (M_tp v))), ((q 2), aI K 20 (M_number (M_cd v))), ((q 3), aZ K 5 (M_isTold (M_rd v))), ((q 4), aI K 80 (M_codeSort (M_cd v))), ((q 5), aI K 80 (M_codeA (M_cd v))), ((q 6), aI K 80 (M_codeB (M_cd v))), ((q 7), aI K 80 (M_codeC (M_cd v))), ((q 8), aI K 80 (M_codeName (M_cd v))), ((q 9), aI K 80 (M_codePlace (M_cd v))), ((q 10), aI K 80 (M_codeTo (M_cd v))), ((q 11), aI K 280 (M_labelName (M_cd v))), ((q 12), aI K 280 (M_labelAt (M_cd v))), ((q 13), aI K 64 (M_data (M_cd v))), ((q 14), aZ K 32 (M_hasData (M_rd v))), ((q 15), aI K 314 (M_s (M_rn v))), ((q 16), aI K 314 (M_aside (M_ex v))), ((q 17), aI K 314 (M_further (M_ex v))), ((q 18), aI K 314 (M_image (M_im v))), ((q 19), aI K 3 (M_sizeNow (M_rn v))), ((q 20), aI K 8 (M_aloneRegister (M_al v))), ((q 21), aI K 4 (M_aloneReal (M_al v))), ((q 22), aI K 32 (M_aloneMemory (M_al v))), ((q 23), aI K 999 (M_aloneOutput (M_al v)))]) (nn := 24) cx [.int x2] [] (m_M_trailerLoads l D K q ((M_tp v), (M_rd v), (M_lf v), (M_cd v), ((M_s (M_rn v)), (M_spanNow (M_rn v)), (M_sizeNow (M_rn v)), x11), (M_ex v), (M_im v), (M_al v), (M_thrown v)) x2 hc63) (by (try simp only [cl_M, M_tape_mk, M_taped_mk, M_tp_mk, M_lines_mk, M_size_mk, M_at_mk, M_place_mk, M_sort_mk, M_value_mk, M_fault_mk, M_faultPlace_mk, M_isTold_mk, M_hasData_mk, M_rd_mk, M_lastFault_mk, M_lastPlace_mk, M_lf_mk, M_number_mk, M_codeSort_mk, M_codeA_mk, M_codeB_mk, M_codeC_mk, M_codeName_mk, M_codePlace_mk, M_codeTo_mk, M_labelName_mk, M_labelAt_mk, M_data_mk, M_cd_mk, M_s_mk, M_spanNow_mk, M_sizeNow_mk, M_placeThen_mk, M_rn_mk, M_aside_mk, M_further_mk, M_shotAlarm_mk, M_drawn_mk, M_ex_mk, M_image_mk, M_hasImage_mk, M_im_mk, M_alonePlace_mk, M_aloneSteps_mk, M_aloneOut_mk, M_aloneRegister_mk, M_aloneReal_mk, M_aloneMemory_mk, M_aloneOutput_mk, M_al_mk, M_thrown_mk, List.cons_append, List.nil_append, List.append_nil]) <;> rfl) yv_X10_trailerLoads wd_1615 ⟨rfl, rfl⟩ (by decide) (fr_s (j := 0) rfl rfl rfl (fr_s (j := 1) rfl rfl rfl (fr_s (j := 2) rfl rfl rfl (fr_s (j := 3) rfl rfl rfl (fr_s (j := 4) rfl rfl rfl (fr_s (j := 5) rfl rfl rfl (fr_s (j := 6) rfl rfl rfl (fr_s (j := 7) rfl rfl rfl (fr_s (j := 8) rfl rfl rfl (fr_s (j := 9) rfl rfl rfl (fr_s (j := 10) rfl rfl rfl (fr_s (j := 11) rfl rfl rfl (fr_s (j := 12) rfl rfl rfl (fr_s (j := 13) rfl rfl rfl (fr_s (j := 14) rfl rfl rfl (fr_s (j := 15) rfl rfl rfl (fr_s (j := 16) rfl rfl rfl (fr_s (j := 17) rfl rfl rfl (fr_s (j := 18) rfl rfl rfl (fr_s (j := 19) rfl rfl rfl (fr_s (j := 20) rfl rfl rfl (fr_s (j := 21) rfl rfl rfl (fr_s (j := 22) rfl rfl rfl (fr_s (j := 23) rfl rfl rfl (fr_n))))))))))))))))))))))))) rfl (by decide) 0 rfl rfl rfl (Nat.le_of_ble_eq_true rfl) dX10_stepped_309 ?_
                refine r_istore (pc := 312) (loc' := [(7, .int r61), (6, .int x10), (5, .int x6), (4, .int x5), (3, .int x4), (2, .int x2), (0, .ref (q 0)), (1, .int a1)]) cx dX10_stepped_312 (by decide) rfl ?_
                refine r_goto (pc := 314) (tgt := 686) cx dX10_stepped_314 (by decide) ?_
                refine r_loc (loc' := [(0, .ref (q 0)), (1, .int a1), (7, .int r61)]) [6, 7, 0] rfl ?_
                exact hJ14 _ _ hf
              · replace hf := ifp h60 hf
                refine r_aload_n (pc := 299) cx dX10_stepped_299 6 rfl ?_
                refine r_iload_n (pc := 300) cx dX10_stepped_300 5 rfl ?_
                replace hf := bd2_of hf
                obtain ⟨r64, v65, hc66, hf⟩ := hf
                refine r_Vi (pc := 301) (ws' := [((q 0), ob 9 [.int (M_thrown v65), .ref (q 1), .int (M_taped (M_tp v65)), .ref (q 2), .ref (q 3), .ref (q 4), .ref (q 5), .ref (q 6), .ref (q 7), .ref (q 8), .ref (q 9), .ref (q 10), .ref (q 11), .ref (q 12), .ref (q 13), .ref (q 14), .int (M_lines (M_rd v65)), .int (M_size (M_rd v65)), .int (M_at (M_rd v65)), .int (M_place (M_rd v65)), .int (M_sort (M_rd v65)), .int (M_value (M_rd v65)), .int (M_fault (M_rd v65)), .int (M_faultPlace (M_rd v65)), .int (M_lastFault (M_lf v65)), .int (M_lastPlace (M_lf v65)), .ref (q 15), .ref (q 16), .ref (q 17), .ref (q 18), .int (M_hasImage (M_im v65)), .int (M_spanNow (M_rn v65)), .ref (q 19), .int (M_placeThen (M_rn v65)), .int (M_alonePlace (M_al v65)), .int (M_aloneSteps (M_al v65)), .int (M_aloneOut (M_al v65)), .ref (q 20), .ref (q 21), .ref (q 22), .ref (q 23), .int (M_shotAlarm (M_ex v65)), .int (M_drawn (M_ex v65))]), ((q 1), aI K 700 (M_tape (M_tp v65))), ((q 2), aI K 20 (M_number (M_cd v65))), ((q 3), aZ K 5 (M_isTold (M_rd v65))), ((q 4), aI K 80 (M_codeSort (M_cd v65))), ((q 5), aI K 80 (M_codeA (M_cd v65))), ((q 6), aI K 80 (M_codeB (M_cd v65))), ((q 7), aI K 80 (M_codeC (M_cd v65))), ((q 8), aI K 80 (M_codeName (M_cd v65))), ((q 9), aI K 80 (M_codePlace (M_cd v65))), ((q 10), aI K 80 (M_codeTo (M_cd v65))), ((q 11), aI K 280 (M_labelName (M_cd v65))), ((q 12), aI K 280 (M_labelAt (M_cd v65))), ((q 13), aI K 64 (M_data (M_cd v65))), ((q 14), aZ K 32 (M_hasData (M_rd v65))), ((q 15), aI K 314 (M_s (M_rn v65))), ((q 16), aI K 314 (M_aside (M_ex v65))), ((q 17), aI K 314 (M_further (M_ex v65))), ((q 18), aI K 314 (M_image (M_im v65))), ((q 19), aI K 3 (M_sizeNow (M_rn v65))), ((q 20), aI K 8 (M_aloneRegister (M_al v65))), ((q 21), aI K 4 (M_aloneReal (M_al v65))), ((q 22), aI K 32 (M_aloneMemory (M_al v65))), ((q 23), aI K 999 (M_aloneOutput (M_al v65)))]) (wc := [((q 0), ob 9 [.int (M_thrown v), .ref (q 1), .int (M_taped (M_tp v)), .ref (q 2), .ref (q 3), .ref (q 4), .ref (q 5), .ref (q 6), .ref (q 7), .ref (q 8), .ref (q 9), .ref (q 10), .ref (q 11), .ref (q 12), .ref (q 13), .ref (q 14), .int (M_lines (M_rd v)), .int (M_size (M_rd v)), .int (M_at (M_rd v)), .int (M_place (M_rd v)), .int (M_sort (M_rd v)), .int (M_value (M_rd v)), .int (M_fault (M_rd v)), .int (M_faultPlace (M_rd v)), .int (M_lastFault (M_lf v)), .int (M_lastPlace (M_lf v)), .ref (q 15), .ref (q 16), .ref (q 17), .ref (q 18), .int (M_hasImage (M_im v)), .int (M_spanNow (M_rn v)), .ref (q 19), .int x11, .int (M_alonePlace (M_al v)), .int (M_aloneSteps (M_al v)), .int (M_aloneOut (M_al v)), .ref (q 20), .ref (q 21), .ref (q 22), .ref (q 23), .int (M_shotAlarm (M_ex v)), .int (M_drawn (M_ex v))]), ((q 1), aI K 700 (M_tape (M_tp v))), ((q 2), aI K 20 (M_number (M_cd v))), ((q 3), aZ K 5 (M_isTold (M_rd v))), ((q 4), aI K 80 (M_codeSort (M_cd v))), ((q 5), aI K 80 (M_codeA (M_cd v))), ((q 6), aI K 80 (M_codeB (M_cd v))), ((q 7), aI K 80 (M_codeC (M_cd v))), ((q 8), aI K 80 (M_codeName (M_cd v))), ((q 9), aI K 80 (M_codePlace (M_cd v))), ((q 10), aI K 80 (M_codeTo (M_cd v))), ((q 11), aI K 280 (M_labelName (M_cd v))), ((q 12), aI K 280 (M_labelAt (M_cd v))), ((q 13), aI K 64 (M_data (M_cd v))), ((q 14), aZ K 32 (M_hasData (M_rd v))), ((q 15), aI K 314 (M_s (M_rn v))), ((q 16), aI K 314 (M_aside (M_ex v))), ((q 17), aI K 314 (M_further (M_ex v))), ((q 18), aI K 314 (M_image (M_im v))), ((q 19), aI K 3 (M_sizeNow (M_rn v))), ((q 20), aI K 8 (M_aloneRegister (M_al v))), ((q 21), aI K 4 (M_aloneReal (M_al v))), ((q 22), aI K 32 (M_aloneMemory (M_al v))), ((q 23), aI K 999 (M_aloneOutput (M_al v)))]) (nn := 24) cx [.int x2] [] (m_M_leaderLoads l D K q ((M_tp v), (M_rd v), (M_lf v), (M_cd v), ((M_s (M_rn v)), (M_spanNow (M_rn v)), (M_sizeNow (M_rn v)), x11), (M_ex v), (M_im v), (M_al v), (M_thrown v)) x2 hc66) (by (try simp only [cl_M, M_tape_mk, M_taped_mk, M_tp_mk, M_lines_mk, M_size_mk, M_at_mk, M_place_mk, M_sort_mk, M_value_mk, M_fault_mk, M_faultPlace_mk, M_isTold_mk, M_hasData_mk, M_rd_mk, M_lastFault_mk, M_lastPlace_mk, M_lf_mk, M_number_mk, M_codeSort_mk, M_codeA_mk, M_codeB_mk, M_codeC_mk, M_codeName_mk, M_codePlace_mk, M_codeTo_mk, M_labelName_mk, M_labelAt_mk, M_data_mk, M_cd_mk, M_s_mk, M_spanNow_mk, M_sizeNow_mk, M_placeThen_mk, M_rn_mk, M_aside_mk, M_further_mk, M_shotAlarm_mk, M_drawn_mk, M_ex_mk, M_image_mk, M_hasImage_mk, M_im_mk, M_alonePlace_mk, M_aloneSteps_mk, M_aloneOut_mk, M_aloneRegister_mk, M_aloneReal_mk, M_aloneMemory_mk, M_aloneOutput_mk, M_al_mk, M_thrown_mk, List.cons_append, List.nil_append, List.append_nil]) <;> rfl) yv_X10_leaderLoads wd_1607 ⟨rfl, rfl⟩ (by decide) (fr_s (j := 0) rfl rfl rfl (fr_s (j := 1) rfl rfl rfl (fr_s (j := 2) rfl rfl rfl (fr_s (j := 3) rfl rfl rfl (fr_s (j := 4) rfl rfl rfl (fr_s (j := 5) rfl rfl rfl (fr_s (j := 6) rfl rfl rfl (fr_s (j := 7) rfl rfl rfl (fr_s (j := 8) rfl rfl rfl (fr_s (j := 9) rfl rfl rfl (fr_s (j := 10) rfl rfl rfl (fr_s (j := 11) rfl rfl rfl (fr_s (j := 12) rfl rfl rfl (fr_s (j := 13) rfl rfl rfl (fr_s (j := 14) rfl rfl rfl (fr_s (j := 15) rfl rfl rfl (fr_s (j := 16) rfl rfl rfl (fr_s (j := 17) rfl rfl rfl (fr_s (j := 18) rfl rfl rfl (fr_s (j := 19) rfl rfl rfl (fr_s (j := 20) rfl rfl rfl (fr_s (j := 21) rfl rfl rfl (fr_s (j := 22) rfl rfl rfl (fr_s (j := 23) rfl rfl rfl (fr_n))))))))))))))))))))))))) rfl (by decide) 0 rfl rfl rfl (Nat.le_of_ble_eq_true rfl) dX10_stepped_301 ?_
                refine r_goto (pc := 304) (tgt := 312) cx dX10_stepped_304 (by decide) ?_
                refine r_istore (pc := 312) (loc' := [(7, .int r64), (6, .int x10), (5, .int x6), (4, .int x5), (3, .int x4), (2, .int x2), (0, .ref (q 0)), (1, .int a1)]) cx dX10_stepped_312 (by decide) rfl ?_
                refine r_goto (pc := 314) (tgt := 686) cx dX10_stepped_314 (by decide) ?_
                refine r_loc (loc' := [(0, .ref (q 0)), (1, .int a1), (7, .int r64)]) [6, 7, 0] rfl ?_
                exact hJ14 _ _ hf
            · replace hf := ifn h59 hf
              by_cases h67 : x4 = (13 : Int32)
              · replace hf := ifp h67 hf
                refine r_tin (pc := 65) (tgt := 317) cx (13 : Int32) h67 dX10_stepped_65 (by decide) (by decide) rfl (by decide) ?_
                refine r_iload_n (pc := 317) cx dX10_stepped_317 7 rfl ?_
                refine r_if_ne (pc := 318) (tgt := 348) cx dX10_stepped_318 (by decide) (fun h68 => ?_) (fun h68 => ?_)
                · replace hf := ifn h68 hf
                  refine r_aload_n (pc := 348) cx dX10_stepped_348 6 rfl ?_
                  refine r_aload_n (pc := 349) cx dX10_stepped_349 6 rfl ?_
                  refine r_iconst (pc := 350) cx dX10_stepped_350 ic_1 ?_
                  refine r_iload_n (pc := 351) cx dX10_stepped_351 5 rfl ?_
                  replace hf := bd_of hf
                  obtain ⟨r69, hc70, hf⟩ := hf
                  refine r_Vi (pc := 352) (ws' := [((q 0), ob 9 [.int (M_thrown v), .ref (q 1), .int (M_taped (M_tp v)), .ref (q 2), .ref (q 3), .ref (q 4), .ref (q 5), .ref (q 6), .ref (q 7), .ref (q 8), .ref (q 9), .ref (q 10), .ref (q 11), .ref (q 12), .ref (q 13), .ref (q 14), .int (M_lines (M_rd v)), .int (M_size (M_rd v)), .int (M_at (M_rd v)), .int (M_place (M_rd v)), .int (M_sort (M_rd v)), .int (M_value (M_rd v)), .int (M_fault (M_rd v)), .int (M_faultPlace (M_rd v)), .int (M_lastFault (M_lf v)), .int (M_lastPlace (M_lf v)), .ref (q 15), .ref (q 16), .ref (q 17), .ref (q 18), .int (M_hasImage (M_im v)), .int (M_spanNow (M_rn v)), .ref (q 19), .int x11, .int (M_alonePlace (M_al v)), .int (M_aloneSteps (M_al v)), .int (M_aloneOut (M_al v)), .ref (q 20), .ref (q 21), .ref (q 22), .ref (q 23), .int (M_shotAlarm (M_ex v)), .int (M_drawn (M_ex v))]), ((q 1), aI K 700 (M_tape (M_tp v))), ((q 2), aI K 20 (M_number (M_cd v))), ((q 3), aZ K 5 (M_isTold (M_rd v))), ((q 4), aI K 80 (M_codeSort (M_cd v))), ((q 5), aI K 80 (M_codeA (M_cd v))), ((q 6), aI K 80 (M_codeB (M_cd v))), ((q 7), aI K 80 (M_codeC (M_cd v))), ((q 8), aI K 80 (M_codeName (M_cd v))), ((q 9), aI K 80 (M_codePlace (M_cd v))), ((q 10), aI K 80 (M_codeTo (M_cd v))), ((q 11), aI K 280 (M_labelName (M_cd v))), ((q 12), aI K 280 (M_labelAt (M_cd v))), ((q 13), aI K 64 (M_data (M_cd v))), ((q 14), aZ K 32 (M_hasData (M_rd v))), ((q 15), aI K 314 (M_s (M_rn v))), ((q 16), aI K 314 (M_aside (M_ex v))), ((q 17), aI K 314 (M_further (M_ex v))), ((q 18), aI K 314 (M_image (M_im v))), ((q 19), aI K 3 (M_sizeNow (M_rn v))), ((q 20), aI K 8 (M_aloneRegister (M_al v))), ((q 21), aI K 4 (M_aloneReal (M_al v))), ((q 22), aI K 32 (M_aloneMemory (M_al v))), ((q 23), aI K 999 (M_aloneOutput (M_al v)))]) (wc := [((q 0), ob 9 [.int (M_thrown v), .ref (q 1), .int (M_taped (M_tp v)), .ref (q 2), .ref (q 3), .ref (q 4), .ref (q 5), .ref (q 6), .ref (q 7), .ref (q 8), .ref (q 9), .ref (q 10), .ref (q 11), .ref (q 12), .ref (q 13), .ref (q 14), .int (M_lines (M_rd v)), .int (M_size (M_rd v)), .int (M_at (M_rd v)), .int (M_place (M_rd v)), .int (M_sort (M_rd v)), .int (M_value (M_rd v)), .int (M_fault (M_rd v)), .int (M_faultPlace (M_rd v)), .int (M_lastFault (M_lf v)), .int (M_lastPlace (M_lf v)), .ref (q 15), .ref (q 16), .ref (q 17), .ref (q 18), .int (M_hasImage (M_im v)), .int (M_spanNow (M_rn v)), .ref (q 19), .int x11, .int (M_alonePlace (M_al v)), .int (M_aloneSteps (M_al v)), .int (M_aloneOut (M_al v)), .ref (q 20), .ref (q 21), .ref (q 22), .ref (q 23), .int (M_shotAlarm (M_ex v)), .int (M_drawn (M_ex v))]), ((q 1), aI K 700 (M_tape (M_tp v))), ((q 2), aI K 20 (M_number (M_cd v))), ((q 3), aZ K 5 (M_isTold (M_rd v))), ((q 4), aI K 80 (M_codeSort (M_cd v))), ((q 5), aI K 80 (M_codeA (M_cd v))), ((q 6), aI K 80 (M_codeB (M_cd v))), ((q 7), aI K 80 (M_codeC (M_cd v))), ((q 8), aI K 80 (M_codeName (M_cd v))), ((q 9), aI K 80 (M_codePlace (M_cd v))), ((q 10), aI K 80 (M_codeTo (M_cd v))), ((q 11), aI K 280 (M_labelName (M_cd v))), ((q 12), aI K 280 (M_labelAt (M_cd v))), ((q 13), aI K 64 (M_data (M_cd v))), ((q 14), aZ K 32 (M_hasData (M_rd v))), ((q 15), aI K 314 (M_s (M_rn v))), ((q 16), aI K 314 (M_aside (M_ex v))), ((q 17), aI K 314 (M_further (M_ex v))), ((q 18), aI K 314 (M_image (M_im v))), ((q 19), aI K 3 (M_sizeNow (M_rn v))), ((q 20), aI K 8 (M_aloneRegister (M_al v))), ((q 21), aI K 4 (M_aloneReal (M_al v))), ((q 22), aI K 32 (M_aloneMemory (M_al v))), ((q 23), aI K 999 (M_aloneOutput (M_al v)))]) (nn := 24) cx [.int (1 : Int32), .int x2] [.ref (q 0)] (m_M_addressOf l D K q ((M_tp v), (M_rd v), (M_lf v), (M_cd v), ((M_s (M_rn v)), (M_spanNow (M_rn v)), (M_sizeNow (M_rn v)), x11), (M_ex v), (M_im v), (M_al v), (M_thrown v)) (1 : Int32) x2 hc70) (by (try simp only [cl_M, M_tape_mk, M_taped_mk, M_tp_mk, M_lines_mk, M_size_mk, M_at_mk, M_place_mk, M_sort_mk, M_value_mk, M_fault_mk, M_faultPlace_mk, M_isTold_mk, M_hasData_mk, M_rd_mk, M_lastFault_mk, M_lastPlace_mk, M_lf_mk, M_number_mk, M_codeSort_mk, M_codeA_mk, M_codeB_mk, M_codeC_mk, M_codeName_mk, M_codePlace_mk, M_codeTo_mk, M_labelName_mk, M_labelAt_mk, M_data_mk, M_cd_mk, M_s_mk, M_spanNow_mk, M_sizeNow_mk, M_placeThen_mk, M_rn_mk, M_aside_mk, M_further_mk, M_shotAlarm_mk, M_drawn_mk, M_ex_mk, M_image_mk, M_hasImage_mk, M_im_mk, M_alonePlace_mk, M_aloneSteps_mk, M_aloneOut_mk, M_aloneRegister_mk, M_aloneReal_mk, M_aloneMemory_mk, M_aloneOutput_mk, M_al_mk, M_thrown_mk, List.cons_append, List.nil_append, List.append_nil]) <;> rfl) yv_X10_addressOf wd_1611 ⟨rfl, rfl⟩ (by decide) (fr_s (j := 0) rfl rfl rfl (fr_s (j := 1) rfl rfl rfl (fr_s (j := 2) rfl rfl rfl (fr_s (j := 3) rfl rfl rfl (fr_s (j := 4) rfl rfl rfl (fr_s (j := 5) rfl rfl rfl (fr_s (j := 6) rfl rfl rfl (fr_s (j := 7) rfl rfl rfl (fr_s (j := 8) rfl rfl rfl (fr_s (j := 9) rfl rfl rfl (fr_s (j := 10) rfl rfl rfl (fr_s (j := 11) rfl rfl rfl (fr_s (j := 12) rfl rfl rfl (fr_s (j := 13) rfl rfl rfl (fr_s (j := 14) rfl rfl rfl (fr_s (j := 15) rfl rfl rfl (fr_s (j := 16) rfl rfl rfl (fr_s (j := 17) rfl rfl rfl (fr_s (j := 18) rfl rfl rfl (fr_s (j := 19) rfl rfl rfl (fr_s (j := 20) rfl rfl rfl (fr_s (j := 21) rfl rfl rfl (fr_s (j := 22) rfl rfl rfl (fr_s (j := 23) rfl rfl rfl (fr_n))))))))))))))))))))))))) rfl (by decide) 0 rfl rfl rfl (Nat.le_of_ble_eq_true rfl) dX10_stepped_352 ?_
                  refine r_aload_n (pc := 355) cx dX10_stepped_355 6 rfl ?_
                  refine r_get (pc := 356) cx cf_X10 0 26 rfl (by decide) rfl wd_1342 dX10_stepped_356 ?_
                  refine r_iload (pc := 359) cx dX10_stepped_359 3 rfl ?_
                  refine r_aload_n (pc := 361) cx dX10_stepped_361 6 rfl ?_
                  refine r_get (pc := 362) cx cf_X10 0 6 rfl (by decide) rfl wd_1322 dX10_stepped_362 ?_
                  refine r_iload_n (pc := 365) cx dX10_stepped_365 5 rfl ?_
                  replace hf := chk_of hf
                  obtain ⟨h71, hf⟩ := hf
                  refine r_iald (pc := 366) cx 5 rfl h71 dX10_stepped_366 ?_
                  refine r_iadd (pc := 367) cx dX10_stepped_367 ?_
                  replace hf := chk_of hf
                  obtain ⟨h72, hf⟩ := hf
                  refine r_iald (pc := 368) cx 15 rfl h72 dX10_stepped_368 ?_
                  replace hf := bd2_of hf
                  obtain ⟨r73, v74, hc75, hf⟩ := hf
                  refine r_Vi (pc := 369) (ws' := [((q 0), ob 9 [.int (M_thrown v74), .ref (q 1), .int (M_taped (M_tp v74)), .ref (q 2), .ref (q 3), .ref (q 4), .ref (q 5), .ref (q 6), .ref (q 7), .ref (q 8), .ref (q 9), .ref (q 10), .ref (q 11), .ref (q 12), .ref (q 13), .ref (q 14), .int (M_lines (M_rd v74)), .int (M_size (M_rd v74)), .int (M_at (M_rd v74)), .int (M_place (M_rd v74)), .int (M_sort (M_rd v74)), .int (M_value (M_rd v74)), .int (M_fault (M_rd v74)), .int (M_faultPlace (M_rd v74)), .int (M_lastFault (M_lf v74)), .int (M_lastPlace (M_lf v74)), .ref (q 15), .ref (q 16), .ref (q 17), .ref (q 18), .int (M_hasImage (M_im v74)), .int (M_spanNow (M_rn v74)), .ref (q 19), .int (M_placeThen (M_rn v74)), .int (M_alonePlace (M_al v74)), .int (M_aloneSteps (M_al v74)), .int (M_aloneOut (M_al v74)), .ref (q 20), .ref (q 21), .ref (q 22), .ref (q 23), .int (M_shotAlarm (M_ex v74)), .int (M_drawn (M_ex v74))]), ((q 1), aI K 700 (M_tape (M_tp v74))), ((q 2), aI K 20 (M_number (M_cd v74))), ((q 3), aZ K 5 (M_isTold (M_rd v74))), ((q 4), aI K 80 (M_codeSort (M_cd v74))), ((q 5), aI K 80 (M_codeA (M_cd v74))), ((q 6), aI K 80 (M_codeB (M_cd v74))), ((q 7), aI K 80 (M_codeC (M_cd v74))), ((q 8), aI K 80 (M_codeName (M_cd v74))), ((q 9), aI K 80 (M_codePlace (M_cd v74))), ((q 10), aI K 80 (M_codeTo (M_cd v74))), ((q 11), aI K 280 (M_labelName (M_cd v74))), ((q 12), aI K 280 (M_labelAt (M_cd v74))), ((q 13), aI K 64 (M_data (M_cd v74))), ((q 14), aZ K 32 (M_hasData (M_rd v74))), ((q 15), aI K 314 (M_s (M_rn v74))), ((q 16), aI K 314 (M_aside (M_ex v74))), ((q 17), aI K 314 (M_further (M_ex v74))), ((q 18), aI K 314 (M_image (M_im v74))), ((q 19), aI K 3 (M_sizeNow (M_rn v74))), ((q 20), aI K 8 (M_aloneRegister (M_al v74))), ((q 21), aI K 4 (M_aloneReal (M_al v74))), ((q 22), aI K 32 (M_aloneMemory (M_al v74))), ((q 23), aI K 999 (M_aloneOutput (M_al v74)))]) (wc := [((q 0), ob 9 [.int (M_thrown v), .ref (q 1), .int (M_taped (M_tp v)), .ref (q 2), .ref (q 3), .ref (q 4), .ref (q 5), .ref (q 6), .ref (q 7), .ref (q 8), .ref (q 9), .ref (q 10), .ref (q 11), .ref (q 12), .ref (q 13), .ref (q 14), .int (M_lines (M_rd v)), .int (M_size (M_rd v)), .int (M_at (M_rd v)), .int (M_place (M_rd v)), .int (M_sort (M_rd v)), .int (M_value (M_rd v)), .int (M_fault (M_rd v)), .int (M_faultPlace (M_rd v)), .int (M_lastFault (M_lf v)), .int (M_lastPlace (M_lf v)), .ref (q 15), .ref (q 16), .ref (q 17), .ref (q 18), .int (M_hasImage (M_im v)), .int (M_spanNow (M_rn v)), .ref (q 19), .int x11, .int (M_alonePlace (M_al v)), .int (M_aloneSteps (M_al v)), .int (M_aloneOut (M_al v)), .ref (q 20), .ref (q 21), .ref (q 22), .ref (q 23), .int (M_shotAlarm (M_ex v)), .int (M_drawn (M_ex v))]), ((q 1), aI K 700 (M_tape (M_tp v))), ((q 2), aI K 20 (M_number (M_cd v))), ((q 3), aZ K 5 (M_isTold (M_rd v))), ((q 4), aI K 80 (M_codeSort (M_cd v))), ((q 5), aI K 80 (M_codeA (M_cd v))), ((q 6), aI K 80 (M_codeB (M_cd v))), ((q 7), aI K 80 (M_codeC (M_cd v))), ((q 8), aI K 80 (M_codeName (M_cd v))), ((q 9), aI K 80 (M_codePlace (M_cd v))), ((q 10), aI K 80 (M_codeTo (M_cd v))), ((q 11), aI K 280 (M_labelName (M_cd v))), ((q 12), aI K 280 (M_labelAt (M_cd v))), ((q 13), aI K 64 (M_data (M_cd v))), ((q 14), aZ K 32 (M_hasData (M_rd v))), ((q 15), aI K 314 (M_s (M_rn v))), ((q 16), aI K 314 (M_aside (M_ex v))), ((q 17), aI K 314 (M_further (M_ex v))), ((q 18), aI K 314 (M_image (M_im v))), ((q 19), aI K 3 (M_sizeNow (M_rn v))), ((q 20), aI K 8 (M_aloneRegister (M_al v))), ((q 21), aI K 4 (M_aloneReal (M_al v))), ((q 22), aI K 32 (M_aloneMemory (M_al v))), ((q 23), aI K 999 (M_aloneOutput (M_al v)))]) (nn := 24) cx [.int r69, .int ((M_s (M_rn v)) ((x5 + ((M_codeA (M_cd v)) x2.toNatClampNeg))).toNatClampNeg)] [] (m_M_trailerHolds l D K q ((M_tp v), (M_rd v), (M_lf v), (M_cd v), ((M_s (M_rn v)), (M_spanNow (M_rn v)), (M_sizeNow (M_rn v)), x11), (M_ex v), (M_im v), (M_al v), (M_thrown v)) r69 ((M_s (M_rn v)) ((x5 + ((M_codeA (M_cd v)) x2.toNatClampNeg))).toNatClampNeg) hc75) (by (try simp only [cl_M, M_tape_mk, M_taped_mk, M_tp_mk, M_lines_mk, M_size_mk, M_at_mk, M_place_mk, M_sort_mk, M_value_mk, M_fault_mk, M_faultPlace_mk, M_isTold_mk, M_hasData_mk, M_rd_mk, M_lastFault_mk, M_lastPlace_mk, M_lf_mk, M_number_mk, M_codeSort_mk, M_codeA_mk, M_codeB_mk, M_codeC_mk, M_codeName_mk, M_codePlace_mk, M_codeTo_mk, M_labelName_mk, M_labelAt_mk, M_data_mk, M_cd_mk, M_s_mk, M_spanNow_mk, M_sizeNow_mk, M_placeThen_mk, M_rn_mk, M_aside_mk, M_further_mk, M_shotAlarm_mk, M_drawn_mk, M_ex_mk, M_image_mk, M_hasImage_mk, M_im_mk, M_alonePlace_mk, M_aloneSteps_mk, M_aloneOut_mk, M_aloneRegister_mk, M_aloneReal_mk, M_aloneMemory_mk, M_aloneOutput_mk, M_al_mk, M_thrown_mk, List.cons_append, List.nil_append, List.append_nil]) <;> rfl) yv_X10_trailerHolds wd_1623 ⟨rfl, rfl⟩ (by decide) (fr_s (j := 0) rfl rfl rfl (fr_s (j := 1) rfl rfl rfl (fr_s (j := 2) rfl rfl rfl (fr_s (j := 3) rfl rfl rfl (fr_s (j := 4) rfl rfl rfl (fr_s (j := 5) rfl rfl rfl (fr_s (j := 6) rfl rfl rfl (fr_s (j := 7) rfl rfl rfl (fr_s (j := 8) rfl rfl rfl (fr_s (j := 9) rfl rfl rfl (fr_s (j := 10) rfl rfl rfl (fr_s (j := 11) rfl rfl rfl (fr_s (j := 12) rfl rfl rfl (fr_s (j := 13) rfl rfl rfl (fr_s (j := 14) rfl rfl rfl (fr_s (j := 15) rfl rfl rfl (fr_s (j := 16) rfl rfl rfl (fr_s (j := 17) rfl rfl rfl (fr_s (j := 18) rfl rfl rfl (fr_s (j := 19) rfl rfl rfl (fr_s (j := 20) rfl rfl rfl (fr_s (j := 21) rfl rfl rfl (fr_s (j := 22) rfl rfl rfl (fr_s (j := 23) rfl rfl rfl (fr_n))))))))))))))))))))))))) rfl (by decide) 0 rfl rfl rfl (Nat.le_of_ble_eq_true rfl) dX10_stepped_369 ?_
                  refine r_istore (pc := 372) (loc' := [(7, .int r73), (6, .int x10), (5, .int x6), (4, .int x5), (3, .int x4), (2, .int x2), (0, .ref (q 0)), (1, .int a1)]) cx dX10_stepped_372 (by decide) rfl ?_
                  refine r_goto (pc := 374) (tgt := 686) cx dX10_stepped_374 (by decide) ?_
                  refine r_loc (loc' := [(0, .ref (q 0)), (1, .int a1), (7, .int r73)]) [6, 7, 0] rfl ?_
                  exact hJ14 _ _ hf
                · replace hf := ifp h68 hf
                  refine r_aload_n (pc := 321) cx dX10_stepped_321 6 rfl ?_
                  refine r_aload_n (pc := 322) cx dX10_stepped_322 6 rfl ?_
                  refine r_iconst (pc := 323) cx dX10_stepped_323 ic_0 ?_
                  refine r_iload_n (pc := 324) cx dX10_stepped_324 5 rfl ?_
                  replace hf := bd_of hf
                  obtain ⟨r76, hc77, hf⟩ := hf
                  refine r_Vi (pc := 325) (ws' := [((q 0), ob 9 [.int (M_thrown v), .ref (q 1), .int (M_taped (M_tp v)), .ref (q 2), .ref (q 3), .ref (q 4), .ref (q 5), .ref (q 6), .ref (q 7), .ref (q 8), .ref (q 9), .ref (q 10), .ref (q 11), .ref (q 12), .ref (q 13), .ref (q 14), .int (M_lines (M_rd v)), .int (M_size (M_rd v)), .int (M_at (M_rd v)), .int (M_place (M_rd v)), .int (M_sort (M_rd v)), .int (M_value (M_rd v)), .int (M_fault (M_rd v)), .int (M_faultPlace (M_rd v)), .int (M_lastFault (M_lf v)), .int (M_lastPlace (M_lf v)), .ref (q 15), .ref (q 16), .ref (q 17), .ref (q 18), .int (M_hasImage (M_im v)), .int (M_spanNow (M_rn v)), .ref (q 19), .int x11, .int (M_alonePlace (M_al v)), .int (M_aloneSteps (M_al v)), .int (M_aloneOut (M_al v)), .ref (q 20), .ref (q 21), .ref (q 22), .ref (q 23), .int (M_shotAlarm (M_ex v)), .int (M_drawn (M_ex v))]), ((q 1), aI K 700 (M_tape (M_tp v))), ((q 2), aI K 20 (M_number (M_cd v))), ((q 3), aZ K 5 (M_isTold (M_rd v))), ((q 4), aI K 80 (M_codeSort (M_cd v))), ((q 5), aI K 80 (M_codeA (M_cd v))), ((q 6), aI K 80 (M_codeB (M_cd v))), ((q 7), aI K 80 (M_codeC (M_cd v))), ((q 8), aI K 80 (M_codeName (M_cd v))), ((q 9), aI K 80 (M_codePlace (M_cd v))), ((q 10), aI K 80 (M_codeTo (M_cd v))), ((q 11), aI K 280 (M_labelName (M_cd v))), ((q 12), aI K 280 (M_labelAt (M_cd v))), ((q 13), aI K 64 (M_data (M_cd v))), ((q 14), aZ K 32 (M_hasData (M_rd v))), ((q 15), aI K 314 (M_s (M_rn v))), ((q 16), aI K 314 (M_aside (M_ex v))), ((q 17), aI K 314 (M_further (M_ex v))), ((q 18), aI K 314 (M_image (M_im v))), ((q 19), aI K 3 (M_sizeNow (M_rn v))), ((q 20), aI K 8 (M_aloneRegister (M_al v))), ((q 21), aI K 4 (M_aloneReal (M_al v))), ((q 22), aI K 32 (M_aloneMemory (M_al v))), ((q 23), aI K 999 (M_aloneOutput (M_al v)))]) (wc := [((q 0), ob 9 [.int (M_thrown v), .ref (q 1), .int (M_taped (M_tp v)), .ref (q 2), .ref (q 3), .ref (q 4), .ref (q 5), .ref (q 6), .ref (q 7), .ref (q 8), .ref (q 9), .ref (q 10), .ref (q 11), .ref (q 12), .ref (q 13), .ref (q 14), .int (M_lines (M_rd v)), .int (M_size (M_rd v)), .int (M_at (M_rd v)), .int (M_place (M_rd v)), .int (M_sort (M_rd v)), .int (M_value (M_rd v)), .int (M_fault (M_rd v)), .int (M_faultPlace (M_rd v)), .int (M_lastFault (M_lf v)), .int (M_lastPlace (M_lf v)), .ref (q 15), .ref (q 16), .ref (q 17), .ref (q 18), .int (M_hasImage (M_im v)), .int (M_spanNow (M_rn v)), .ref (q 19), .int x11, .int (M_alonePlace (M_al v)), .int (M_aloneSteps (M_al v)), .int (M_aloneOut (M_al v)), .ref (q 20), .ref (q 21), .ref (q 22), .ref (q 23), .int (M_shotAlarm (M_ex v)), .int (M_drawn (M_ex v))]), ((q 1), aI K 700 (M_tape (M_tp v))), ((q 2), aI K 20 (M_number (M_cd v))), ((q 3), aZ K 5 (M_isTold (M_rd v))), ((q 4), aI K 80 (M_codeSort (M_cd v))), ((q 5), aI K 80 (M_codeA (M_cd v))), ((q 6), aI K 80 (M_codeB (M_cd v))), ((q 7), aI K 80 (M_codeC (M_cd v))), ((q 8), aI K 80 (M_codeName (M_cd v))), ((q 9), aI K 80 (M_codePlace (M_cd v))), ((q 10), aI K 80 (M_codeTo (M_cd v))), ((q 11), aI K 280 (M_labelName (M_cd v))), ((q 12), aI K 280 (M_labelAt (M_cd v))), ((q 13), aI K 64 (M_data (M_cd v))), ((q 14), aZ K 32 (M_hasData (M_rd v))), ((q 15), aI K 314 (M_s (M_rn v))), ((q 16), aI K 314 (M_aside (M_ex v))), ((q 17), aI K 314 (M_further (M_ex v))), ((q 18), aI K 314 (M_image (M_im v))), ((q 19), aI K 3 (M_sizeNow (M_rn v))), ((q 20), aI K 8 (M_aloneRegister (M_al v))), ((q 21), aI K 4 (M_aloneReal (M_al v))), ((q 22), aI K 32 (M_aloneMemory (M_al v))), ((q 23), aI K 999 (M_aloneOutput (M_al v)))]) (nn := 24) cx [.int (0 : Int32), .int x2] [.ref (q 0)] (m_M_addressOf l D K q ((M_tp v), (M_rd v), (M_lf v), (M_cd v), ((M_s (M_rn v)), (M_spanNow (M_rn v)), (M_sizeNow (M_rn v)), x11), (M_ex v), (M_im v), (M_al v), (M_thrown v)) (0 : Int32) x2 hc77) (by (try simp only [cl_M, M_tape_mk, M_taped_mk, M_tp_mk, M_lines_mk, M_size_mk, M_at_mk, M_place_mk, M_sort_mk, M_value_mk, M_fault_mk, M_faultPlace_mk, M_isTold_mk, M_hasData_mk, M_rd_mk, M_lastFault_mk, M_lastPlace_mk, M_lf_mk, M_number_mk, M_codeSort_mk, M_codeA_mk, M_codeB_mk, M_codeC_mk, M_codeName_mk, M_codePlace_mk, M_codeTo_mk, M_labelName_mk, M_labelAt_mk, M_data_mk, M_cd_mk, M_s_mk, M_spanNow_mk, M_sizeNow_mk, M_placeThen_mk, M_rn_mk, M_aside_mk, M_further_mk, M_shotAlarm_mk, M_drawn_mk, M_ex_mk, M_image_mk, M_hasImage_mk, M_im_mk, M_alonePlace_mk, M_aloneSteps_mk, M_aloneOut_mk, M_aloneRegister_mk, M_aloneReal_mk, M_aloneMemory_mk, M_aloneOutput_mk, M_al_mk, M_thrown_mk, List.cons_append, List.nil_append, List.append_nil]) <;> rfl) yv_X10_addressOf wd_1611 ⟨rfl, rfl⟩ (by decide) (fr_s (j := 0) rfl rfl rfl (fr_s (j := 1) rfl rfl rfl (fr_s (j := 2) rfl rfl rfl (fr_s (j := 3) rfl rfl rfl (fr_s (j := 4) rfl rfl rfl (fr_s (j := 5) rfl rfl rfl (fr_s (j := 6) rfl rfl rfl (fr_s (j := 7) rfl rfl rfl (fr_s (j := 8) rfl rfl rfl (fr_s (j := 9) rfl rfl rfl (fr_s (j := 10) rfl rfl rfl (fr_s (j := 11) rfl rfl rfl (fr_s (j := 12) rfl rfl rfl (fr_s (j := 13) rfl rfl rfl (fr_s (j := 14) rfl rfl rfl (fr_s (j := 15) rfl rfl rfl (fr_s (j := 16) rfl rfl rfl (fr_s (j := 17) rfl rfl rfl (fr_s (j := 18) rfl rfl rfl (fr_s (j := 19) rfl rfl rfl (fr_s (j := 20) rfl rfl rfl (fr_s (j := 21) rfl rfl rfl (fr_s (j := 22) rfl rfl rfl (fr_s (j := 23) rfl rfl rfl (fr_n))))))))))))))))))))))))) rfl (by decide) 0 rfl rfl rfl (Nat.le_of_ble_eq_true rfl) dX10_stepped_325 ?_
                  refine r_aload_n (pc := 328) cx dX10_stepped_328 6 rfl ?_
                  refine r_get (pc := 329) cx cf_X10 0 26 rfl (by decide) rfl wd_1342 dX10_stepped_329 ?_
                  refine r_iload (pc := 332) cx dX10_stepped_332 3 rfl ?_
                  refine r_aload_n (pc := 334) cx dX10_stepped_334 6 rfl ?_
                  refine r_get (pc := 335) cx cf_X10 0 6 rfl (by decide) rfl wd_1322 dX10_stepped_335 ?_
                  refine r_iload_n (pc := 338) cx dX10_stepped_338 5 rfl ?_
                  replace hf := chk_of hf
                  obtain ⟨h78, hf⟩ := hf
                  refine r_iald (pc := 339) cx 5 rfl h78 dX10_stepped_339 ?_
                  refine r_iadd (pc := 340) cx dX10_stepped_340 ?_
                  replace hf := chk_of hf
                  obtain ⟨h79, hf⟩ := hf
                  refine r_iald (pc := 341) cx 15 rfl h79 dX10_stepped_341 ?_
                  replace hf := bd2_of hf
                  obtain ⟨r80, v81, hc82, hf⟩ := hf
                  refine r_Vi (pc := 342) (ws' := [((q 0), ob 9 [.int (M_thrown v81), .ref (q 1), .int (M_taped (M_tp v81)), .ref (q 2), .ref (q 3), .ref (q 4), .ref (q 5), .ref (q 6), .ref (q 7), .ref (q 8), .ref (q 9), .ref (q 10), .ref (q 11), .ref (q 12), .ref (q 13), .ref (q 14), .int (M_lines (M_rd v81)), .int (M_size (M_rd v81)), .int (M_at (M_rd v81)), .int (M_place (M_rd v81)), .int (M_sort (M_rd v81)), .int (M_value (M_rd v81)), .int (M_fault (M_rd v81)), .int (M_faultPlace (M_rd v81)), .int (M_lastFault (M_lf v81)), .int (M_lastPlace (M_lf v81)), .ref (q 15), .ref (q 16), .ref (q 17), .ref (q 18), .int (M_hasImage (M_im v81)), .int (M_spanNow (M_rn v81)), .ref (q 19), .int (M_placeThen (M_rn v81)), .int (M_alonePlace (M_al v81)), .int (M_aloneSteps (M_al v81)), .int (M_aloneOut (M_al v81)), .ref (q 20), .ref (q 21), .ref (q 22), .ref (q 23), .int (M_shotAlarm (M_ex v81)), .int (M_drawn (M_ex v81))]), ((q 1), aI K 700 (M_tape (M_tp v81))), ((q 2), aI K 20 (M_number (M_cd v81))), ((q 3), aZ K 5 (M_isTold (M_rd v81))), ((q 4), aI K 80 (M_codeSort (M_cd v81))), ((q 5), aI K 80 (M_codeA (M_cd v81))), ((q 6), aI K 80 (M_codeB (M_cd v81))), ((q 7), aI K 80 (M_codeC (M_cd v81))), ((q 8), aI K 80 (M_codeName (M_cd v81))), ((q 9), aI K 80 (M_codePlace (M_cd v81))), ((q 10), aI K 80 (M_codeTo (M_cd v81))), ((q 11), aI K 280 (M_labelName (M_cd v81))), ((q 12), aI K 280 (M_labelAt (M_cd v81))), ((q 13), aI K 64 (M_data (M_cd v81))), ((q 14), aZ K 32 (M_hasData (M_rd v81))), ((q 15), aI K 314 (M_s (M_rn v81))), ((q 16), aI K 314 (M_aside (M_ex v81))), ((q 17), aI K 314 (M_further (M_ex v81))), ((q 18), aI K 314 (M_image (M_im v81))), ((q 19), aI K 3 (M_sizeNow (M_rn v81))), ((q 20), aI K 8 (M_aloneRegister (M_al v81))), ((q 21), aI K 4 (M_aloneReal (M_al v81))), ((q 22), aI K 32 (M_aloneMemory (M_al v81))), ((q 23), aI K 999 (M_aloneOutput (M_al v81)))]) (wc := [((q 0), ob 9 [.int (M_thrown v), .ref (q 1), .int (M_taped (M_tp v)), .ref (q 2), .ref (q 3), .ref (q 4), .ref (q 5), .ref (q 6), .ref (q 7), .ref (q 8), .ref (q 9), .ref (q 10), .ref (q 11), .ref (q 12), .ref (q 13), .ref (q 14), .int (M_lines (M_rd v)), .int (M_size (M_rd v)), .int (M_at (M_rd v)), .int (M_place (M_rd v)), .int (M_sort (M_rd v)), .int (M_value (M_rd v)), .int (M_fault (M_rd v)), .int (M_faultPlace (M_rd v)), .int (M_lastFault (M_lf v)), .int (M_lastPlace (M_lf v)), .ref (q 15), .ref (q 16), .ref (q 17), .ref (q 18), .int (M_hasImage (M_im v)), .int (M_spanNow (M_rn v)), .ref (q 19), .int x11, .int (M_alonePlace (M_al v)), .int (M_aloneSteps (M_al v)), .int (M_aloneOut (M_al v)), .ref (q 20), .ref (q 21), .ref (q 22), .ref (q 23), .int (M_shotAlarm (M_ex v)), .int (M_drawn (M_ex v))]), ((q 1), aI K 700 (M_tape (M_tp v))), ((q 2), aI K 20 (M_number (M_cd v))), ((q 3), aZ K 5 (M_isTold (M_rd v))), ((q 4), aI K 80 (M_codeSort (M_cd v))), ((q 5), aI K 80 (M_codeA (M_cd v))), ((q 6), aI K 80 (M_codeB (M_cd v))), ((q 7), aI K 80 (M_codeC (M_cd v))), ((q 8), aI K 80 (M_codeName (M_cd v))), ((q 9), aI K 80 (M_codePlace (M_cd v))), ((q 10), aI K 80 (M_codeTo (M_cd v))), ((q 11), aI K 280 (M_labelName (M_cd v))), ((q 12), aI K 280 (M_labelAt (M_cd v))), ((q 13), aI K 64 (M_data (M_cd v))), ((q 14), aZ K 32 (M_hasData (M_rd v))), ((q 15), aI K 314 (M_s (M_rn v))), ((q 16), aI K 314 (M_aside (M_ex v))), ((q 17), aI K 314 (M_further (M_ex v))), ((q 18), aI K 314 (M_image (M_im v))), ((q 19), aI K 3 (M_sizeNow (M_rn v))), ((q 20), aI K 8 (M_aloneRegister (M_al v))), ((q 21), aI K 4 (M_aloneReal (M_al v))), ((q 22), aI K 32 (M_aloneMemory (M_al v))), ((q 23), aI K 999 (M_aloneOutput (M_al v)))]) (nn := 24) cx [.int r76, .int ((M_s (M_rn v)) ((x5 + ((M_codeA (M_cd v)) x2.toNatClampNeg))).toNatClampNeg)] [] (m_M_leaderHolds l D K q ((M_tp v), (M_rd v), (M_lf v), (M_cd v), ((M_s (M_rn v)), (M_spanNow (M_rn v)), (M_sizeNow (M_rn v)), x11), (M_ex v), (M_im v), (M_al v), (M_thrown v)) r76 ((M_s (M_rn v)) ((x5 + ((M_codeA (M_cd v)) x2.toNatClampNeg))).toNatClampNeg) hc82) (by (try simp only [cl_M, M_tape_mk, M_taped_mk, M_tp_mk, M_lines_mk, M_size_mk, M_at_mk, M_place_mk, M_sort_mk, M_value_mk, M_fault_mk, M_faultPlace_mk, M_isTold_mk, M_hasData_mk, M_rd_mk, M_lastFault_mk, M_lastPlace_mk, M_lf_mk, M_number_mk, M_codeSort_mk, M_codeA_mk, M_codeB_mk, M_codeC_mk, M_codeName_mk, M_codePlace_mk, M_codeTo_mk, M_labelName_mk, M_labelAt_mk, M_data_mk, M_cd_mk, M_s_mk, M_spanNow_mk, M_sizeNow_mk, M_placeThen_mk, M_rn_mk, M_aside_mk, M_further_mk, M_shotAlarm_mk, M_drawn_mk, M_ex_mk, M_image_mk, M_hasImage_mk, M_im_mk, M_alonePlace_mk, M_aloneSteps_mk, M_aloneOut_mk, M_aloneRegister_mk, M_aloneReal_mk, M_aloneMemory_mk, M_aloneOutput_mk, M_al_mk, M_thrown_mk, List.cons_append, List.nil_append, List.append_nil]) <;> rfl) yv_X10_leaderHolds wd_1619 ⟨rfl, rfl⟩ (by decide) (fr_s (j := 0) rfl rfl rfl (fr_s (j := 1) rfl rfl rfl (fr_s (j := 2) rfl rfl rfl (fr_s (j := 3) rfl rfl rfl (fr_s (j := 4) rfl rfl rfl (fr_s (j := 5) rfl rfl rfl (fr_s (j := 6) rfl rfl rfl (fr_s (j := 7) rfl rfl rfl (fr_s (j := 8) rfl rfl rfl (fr_s (j := 9) rfl rfl rfl (fr_s (j := 10) rfl rfl rfl (fr_s (j := 11) rfl rfl rfl (fr_s (j := 12) rfl rfl rfl (fr_s (j := 13) rfl rfl rfl (fr_s (j := 14) rfl rfl rfl (fr_s (j := 15) rfl rfl rfl (fr_s (j := 16) rfl rfl rfl (fr_s (j := 17) rfl rfl rfl (fr_s (j := 18) rfl rfl rfl (fr_s (j := 19) rfl rfl rfl (fr_s (j := 20) rfl rfl rfl (fr_s (j := 21) rfl rfl rfl (fr_s (j := 22) rfl rfl rfl (fr_s (j := 23) rfl rfl rfl (fr_n))))))))))))))))))))))))) rfl (by decide) 0 rfl rfl rfl (Nat.le_of_ble_eq_true rfl) dX10_stepped_342 ?_
                  refine r_goto (pc := 345) (tgt := 372) cx dX10_stepped_345 (by decide) ?_
                  refine r_istore (pc := 372) (loc' := [(7, .int r80), (6, .int x10), (5, .int x6), (4, .int x5), (3, .int x4), (2, .int x2), (0, .ref (q 0)), (1, .int a1)]) cx dX10_stepped_372 (by decide) rfl ?_
                  refine r_goto (pc := 374) (tgt := 686) cx dX10_stepped_374 (by decide) ?_
                  refine r_loc (loc' := [(0, .ref (q 0)), (1, .int a1), (7, .int r80)]) [6, 7, 0] rfl ?_
                  exact hJ14 _ _ hf
              · replace hf := ifn h67 hf
                by_cases h83 : x4 = (14 : Int32)
                · replace hf := ifp h83 hf
                  refine r_tin (pc := 65) (tgt := 377) cx (14 : Int32) h83 dX10_stepped_65 (by decide) (by decide) rfl (by decide) ?_
                  refine r_iload_n (pc := 377) cx dX10_stepped_377 7 rfl ?_
                  refine r_if_ne (pc := 378) (tgt := 404) cx dX10_stepped_378 (by decide) (fun h84 => ?_) (fun h84 => ?_)
                  · replace hf := ifn h84 hf
                    refine r_aload_n (pc := 404) cx dX10_stepped_404 6 rfl ?_
                    refine r_bipush (pc := 405) cx dX10_stepped_405 bp_32 ?_
                    refine r_aload_n (pc := 407) cx dX10_stepped_407 6 rfl ?_
                    refine r_get (pc := 408) cx cf_X10 0 26 rfl (by decide) rfl wd_1342 dX10_stepped_408 ?_
                    refine r_iload (pc := 411) cx dX10_stepped_411 3 rfl ?_
                    refine r_aload_n (pc := 413) cx dX10_stepped_413 6 rfl ?_
                    refine r_get (pc := 414) cx cf_X10 0 6 rfl (by decide) rfl wd_1322 dX10_stepped_414 ?_
                    refine r_iload_n (pc := 417) cx dX10_stepped_417 5 rfl ?_
                    replace hf := chk_of hf
                    obtain ⟨h85, hf⟩ := hf
                    refine r_iald (pc := 418) cx 5 rfl h85 dX10_stepped_418 ?_
                    refine r_iadd (pc := 419) cx dX10_stepped_419 ?_
                    replace hf := chk_of hf
                    obtain ⟨h86, hf⟩ := hf
                    refine r_iald (pc := 420) cx 15 rfl h86 dX10_stepped_420 ?_
                    replace hf := bd2_of hf
                    obtain ⟨r87, v88, hc89, hf⟩ := hf
                    refine r_Vi (pc := 421) (ws' := [((q 0), ob 9 [.int (M_thrown v88), .ref (q 1), .int (M_taped (M_tp v88)), .ref (q 2), .ref (q 3), .ref (q 4), .ref (q 5), .ref (q 6), .ref (q 7), .ref (q 8), .ref (q 9), .ref (q 10), .ref (q 11), .ref (q 12), .ref (q 13), .ref (q 14), .int (M_lines (M_rd v88)), .int (M_size (M_rd v88)), .int (M_at (M_rd v88)), .int (M_place (M_rd v88)), .int (M_sort (M_rd v88)), .int (M_value (M_rd v88)), .int (M_fault (M_rd v88)), .int (M_faultPlace (M_rd v88)), .int (M_lastFault (M_lf v88)), .int (M_lastPlace (M_lf v88)), .ref (q 15), .ref (q 16), .ref (q 17), .ref (q 18), .int (M_hasImage (M_im v88)), .int (M_spanNow (M_rn v88)), .ref (q 19), .int (M_placeThen (M_rn v88)), .int (M_alonePlace (M_al v88)), .int (M_aloneSteps (M_al v88)), .int (M_aloneOut (M_al v88)), .ref (q 20), .ref (q 21), .ref (q 22), .ref (q 23), .int (M_shotAlarm (M_ex v88)), .int (M_drawn (M_ex v88))]), ((q 1), aI K 700 (M_tape (M_tp v88))), ((q 2), aI K 20 (M_number (M_cd v88))), ((q 3), aZ K 5 (M_isTold (M_rd v88))), ((q 4), aI K 80 (M_codeSort (M_cd v88))), ((q 5), aI K 80 (M_codeA (M_cd v88))), ((q 6), aI K 80 (M_codeB (M_cd v88))), ((q 7), aI K 80 (M_codeC (M_cd v88))), ((q 8), aI K 80 (M_codeName (M_cd v88))), ((q 9), aI K 80 (M_codePlace (M_cd v88))), ((q 10), aI K 80 (M_codeTo (M_cd v88))), ((q 11), aI K 280 (M_labelName (M_cd v88))), ((q 12), aI K 280 (M_labelAt (M_cd v88))), ((q 13), aI K 64 (M_data (M_cd v88))), ((q 14), aZ K 32 (M_hasData (M_rd v88))), ((q 15), aI K 314 (M_s (M_rn v88))), ((q 16), aI K 314 (M_aside (M_ex v88))), ((q 17), aI K 314 (M_further (M_ex v88))), ((q 18), aI K 314 (M_image (M_im v88))), ((q 19), aI K 3 (M_sizeNow (M_rn v88))), ((q 20), aI K 8 (M_aloneRegister (M_al v88))), ((q 21), aI K 4 (M_aloneReal (M_al v88))), ((q 22), aI K 32 (M_aloneMemory (M_al v88))), ((q 23), aI K 999 (M_aloneOutput (M_al v88)))]) (wc := [((q 0), ob 9 [.int (M_thrown v), .ref (q 1), .int (M_taped (M_tp v)), .ref (q 2), .ref (q 3), .ref (q 4), .ref (q 5), .ref (q 6), .ref (q 7), .ref (q 8), .ref (q 9), .ref (q 10), .ref (q 11), .ref (q 12), .ref (q 13), .ref (q 14), .int (M_lines (M_rd v)), .int (M_size (M_rd v)), .int (M_at (M_rd v)), .int (M_place (M_rd v)), .int (M_sort (M_rd v)), .int (M_value (M_rd v)), .int (M_fault (M_rd v)), .int (M_faultPlace (M_rd v)), .int (M_lastFault (M_lf v)), .int (M_lastPlace (M_lf v)), .ref (q 15), .ref (q 16), .ref (q 17), .ref (q 18), .int (M_hasImage (M_im v)), .int (M_spanNow (M_rn v)), .ref (q 19), .int x11, .int (M_alonePlace (M_al v)), .int (M_aloneSteps (M_al v)), .int (M_aloneOut (M_al v)), .ref (q 20), .ref (q 21), .ref (q 22), .ref (q 23), .int (M_shotAlarm (M_ex v)), .int (M_drawn (M_ex v))]), ((q 1), aI K 700 (M_tape (M_tp v))), ((q 2), aI K 20 (M_number (M_cd v))), ((q 3), aZ K 5 (M_isTold (M_rd v))), ((q 4), aI K 80 (M_codeSort (M_cd v))), ((q 5), aI K 80 (M_codeA (M_cd v))), ((q 6), aI K 80 (M_codeB (M_cd v))), ((q 7), aI K 80 (M_codeC (M_cd v))), ((q 8), aI K 80 (M_codeName (M_cd v))), ((q 9), aI K 80 (M_codePlace (M_cd v))), ((q 10), aI K 80 (M_codeTo (M_cd v))), ((q 11), aI K 280 (M_labelName (M_cd v))), ((q 12), aI K 280 (M_labelAt (M_cd v))), ((q 13), aI K 64 (M_data (M_cd v))), ((q 14), aZ K 32 (M_hasData (M_rd v))), ((q 15), aI K 314 (M_s (M_rn v))), ((q 16), aI K 314 (M_aside (M_ex v))), ((q 17), aI K 314 (M_further (M_ex v))), ((q 18), aI K 314 (M_image (M_im v))), ((q 19), aI K 3 (M_sizeNow (M_rn v))), ((q 20), aI K 8 (M_aloneRegister (M_al v))), ((q 21), aI K 4 (M_aloneReal (M_al v))), ((q 22), aI K 32 (M_aloneMemory (M_al v))), ((q 23), aI K 999 (M_aloneOutput (M_al v)))]) (nn := 24) cx [.int (32 : Int32), .int ((M_s (M_rn v)) ((x5 + ((M_codeA (M_cd v)) x2.toNatClampNeg))).toNatClampNeg)] [] (m_M_trailerHolds l D K q ((M_tp v), (M_rd v), (M_lf v), (M_cd v), ((M_s (M_rn v)), (M_spanNow (M_rn v)), (M_sizeNow (M_rn v)), x11), (M_ex v), (M_im v), (M_al v), (M_thrown v)) (32 : Int32) ((M_s (M_rn v)) ((x5 + ((M_codeA (M_cd v)) x2.toNatClampNeg))).toNatClampNeg) hc89) (by (try simp only [cl_M, M_tape_mk, M_taped_mk, M_tp_mk, M_lines_mk, M_size_mk, M_at_mk, M_place_mk, M_sort_mk, M_value_mk, M_fault_mk, M_faultPlace_mk, M_isTold_mk, M_hasData_mk, M_rd_mk, M_lastFault_mk, M_lastPlace_mk, M_lf_mk, M_number_mk, M_codeSort_mk, M_codeA_mk, M_codeB_mk, M_codeC_mk, M_codeName_mk, M_codePlace_mk, M_codeTo_mk, M_labelName_mk, M_labelAt_mk, M_data_mk, M_cd_mk, M_s_mk, M_spanNow_mk, M_sizeNow_mk, M_placeThen_mk, M_rn_mk, M_aside_mk, M_further_mk, M_shotAlarm_mk, M_drawn_mk, M_ex_mk, M_image_mk, M_hasImage_mk, M_im_mk, M_alonePlace_mk, M_aloneSteps_mk, M_aloneOut_mk, M_aloneRegister_mk, M_aloneReal_mk, M_aloneMemory_mk, M_aloneOutput_mk, M_al_mk, M_thrown_mk, List.cons_append, List.nil_append, List.append_nil]) <;> rfl) yv_X10_trailerHolds wd_1623 ⟨rfl, rfl⟩ (by decide) (fr_s (j := 0) rfl rfl rfl (fr_s (j := 1) rfl rfl rfl (fr_s (j := 2) rfl rfl rfl (fr_s (j := 3) rfl rfl rfl (fr_s (j := 4) rfl rfl rfl (fr_s (j := 5) rfl rfl rfl (fr_s (j := 6) rfl rfl rfl (fr_s (j := 7) rfl rfl rfl (fr_s (j := 8) rfl rfl rfl (fr_s (j := 9) rfl rfl rfl (fr_s (j := 10) rfl rfl rfl (fr_s (j := 11) rfl rfl rfl (fr_s (j := 12) rfl rfl rfl (fr_s (j := 13) rfl rfl rfl (fr_s (j := 14) rfl rfl rfl (fr_s (j := 15) rfl rfl rfl (fr_s (j := 16) rfl rfl rfl (fr_s (j := 17) rfl rfl rfl (fr_s (j := 18) rfl rfl rfl (fr_s (j := 19) rfl rfl rfl (fr_s (j := 20) rfl rfl rfl (fr_s (j := 21) rfl rfl rfl (fr_s (j := 22) rfl rfl rfl (fr_s (j := 23) rfl rfl rfl (fr_n))))))))))))))))))))))))) rfl (by decide) 0 rfl rfl rfl (Nat.le_of_ble_eq_true rfl) dX10_stepped_421 ?_
                    refine r_istore (pc := 424) (loc' := [(7, .int r87), (6, .int x10), (5, .int x6), (4, .int x5), (3, .int x4), (2, .int x2), (0, .ref (q 0)), (1, .int a1)]) cx dX10_stepped_424 (by decide) rfl ?_
                    refine r_goto (pc := 426) (tgt := 686) cx dX10_stepped_426 (by decide) ?_
                    refine r_loc (loc' := [(0, .ref (q 0)), (1, .int a1), (7, .int r87)]) [6, 7, 0] rfl ?_
                    exact hJ14 _ _ hf
                  · replace hf := ifp h84 hf
                    refine r_aload_n (pc := 381) cx dX10_stepped_381 6 rfl ?_
                    refine r_bipush (pc := 382) cx dX10_stepped_382 bp_32 ?_
                    refine r_aload_n (pc := 384) cx dX10_stepped_384 6 rfl ?_
                    refine r_get (pc := 385) cx cf_X10 0 26 rfl (by decide) rfl wd_1342 dX10_stepped_385 ?_
                    refine r_iload (pc := 388) cx dX10_stepped_388 3 rfl ?_
                    refine r_aload_n (pc := 390) cx dX10_stepped_390 6 rfl ?_
                    refine r_get (pc := 391) cx cf_X10 0 6 rfl (by decide) rfl wd_1322 dX10_stepped_391 ?_
                    refine r_iload_n (pc := 394) cx dX10_stepped_394 5 rfl ?_
                    replace hf := chk_of hf
                    obtain ⟨h90, hf⟩ := hf
                    refine r_iald (pc := 395) cx 5 rfl h90 dX10_stepped_395 ?_
                    refine r_iadd (pc := 396) cx dX10_stepped_396 ?_
                    replace hf := chk_of hf
                    obtain ⟨h91, hf⟩ := hf
                    refine r_iald (pc := 397) cx 15 rfl h91 dX10_stepped_397 ?_
                    replace hf := bd2_of hf
                    obtain ⟨r92, v93, hc94, hf⟩ := hf
                    refine r_Vi (pc := 398) (ws' := [((q 0), ob 9 [.int (M_thrown v93), .ref (q 1), .int (M_taped (M_tp v93)), .ref (q 2), .ref (q 3), .ref (q 4), .ref (q 5), .ref (q 6), .ref (q 7), .ref (q 8), .ref (q 9), .ref (q 10), .ref (q 11), .ref (q 12), .ref (q 13), .ref (q 14), .int (M_lines (M_rd v93)), .int (M_size (M_rd v93)), .int (M_at (M_rd v93)), .int (M_place (M_rd v93)), .int (M_sort (M_rd v93)), .int (M_value (M_rd v93)), .int (M_fault (M_rd v93)), .int (M_faultPlace (M_rd v93)), .int (M_lastFault (M_lf v93)), .int (M_lastPlace (M_lf v93)), .ref (q 15), .ref (q 16), .ref (q 17), .ref (q 18), .int (M_hasImage (M_im v93)), .int (M_spanNow (M_rn v93)), .ref (q 19), .int (M_placeThen (M_rn v93)), .int (M_alonePlace (M_al v93)), .int (M_aloneSteps (M_al v93)), .int (M_aloneOut (M_al v93)), .ref (q 20), .ref (q 21), .ref (q 22), .ref (q 23), .int (M_shotAlarm (M_ex v93)), .int (M_drawn (M_ex v93))]), ((q 1), aI K 700 (M_tape (M_tp v93))), ((q 2), aI K 20 (M_number (M_cd v93))), ((q 3), aZ K 5 (M_isTold (M_rd v93))), ((q 4), aI K 80 (M_codeSort (M_cd v93))), ((q 5), aI K 80 (M_codeA (M_cd v93))), ((q 6), aI K 80 (M_codeB (M_cd v93))), ((q 7), aI K 80 (M_codeC (M_cd v93))), ((q 8), aI K 80 (M_codeName (M_cd v93))), ((q 9), aI K 80 (M_codePlace (M_cd v93))), ((q 10), aI K 80 (M_codeTo (M_cd v93))), ((q 11), aI K 280 (M_labelName (M_cd v93))), ((q 12), aI K 280 (M_labelAt (M_cd v93))), ((q 13), aI K 64 (M_data (M_cd v93))), ((q 14), aZ K 32 (M_hasData (M_rd v93))), ((q 15), aI K 314 (M_s (M_rn v93))), ((q 16), aI K 314 (M_aside (M_ex v93))), ((q 17), aI K 314 (M_further (M_ex v93))), ((q 18), aI K 314 (M_image (M_im v93))), ((q 19), aI K 3 (M_sizeNow (M_rn v93))), ((q 20), aI K 8 (M_aloneRegister (M_al v93))), ((q 21), aI K 4 (M_aloneReal (M_al v93))), ((q 22), aI K 32 (M_aloneMemory (M_al v93))), ((q 23), aI K 999 (M_aloneOutput (M_al v93)))]) (wc := [((q 0), ob 9 [.int (M_thrown v), .ref (q 1), .int (M_taped (M_tp v)), .ref (q 2), .ref (q 3), .ref (q 4), .ref (q 5), .ref (q 6), .ref (q 7), .ref (q 8), .ref (q 9), .ref (q 10), .ref (q 11), .ref (q 12), .ref (q 13), .ref (q 14), .int (M_lines (M_rd v)), .int (M_size (M_rd v)), .int (M_at (M_rd v)), .int (M_place (M_rd v)), .int (M_sort (M_rd v)), .int (M_value (M_rd v)), .int (M_fault (M_rd v)), .int (M_faultPlace (M_rd v)), .int (M_lastFault (M_lf v)), .int (M_lastPlace (M_lf v)), .ref (q 15), .ref (q 16), .ref (q 17), .ref (q 18), .int (M_hasImage (M_im v)), .int (M_spanNow (M_rn v)), .ref (q 19), .int x11, .int (M_alonePlace (M_al v)), .int (M_aloneSteps (M_al v)), .int (M_aloneOut (M_al v)), .ref (q 20), .ref (q 21), .ref (q 22), .ref (q 23), .int (M_shotAlarm (M_ex v)), .int (M_drawn (M_ex v))]), ((q 1), aI K 700 (M_tape (M_tp v))), ((q 2), aI K 20 (M_number (M_cd v))), ((q 3), aZ K 5 (M_isTold (M_rd v))), ((q 4), aI K 80 (M_codeSort (M_cd v))), ((q 5), aI K 80 (M_codeA (M_cd v))), ((q 6), aI K 80 (M_codeB (M_cd v))), ((q 7), aI K 80 (M_codeC (M_cd v))), ((q 8), aI K 80 (M_codeName (M_cd v))), ((q 9), aI K 80 (M_codePlace (M_cd v))), ((q 10), aI K 80 (M_codeTo (M_cd v))), ((q 11), aI K 280 (M_labelName (M_cd v))), ((q 12), aI K 280 (M_labelAt (M_cd v))), ((q 13), aI K 64 (M_data (M_cd v))), ((q 14), aZ K 32 (M_hasData (M_rd v))), ((q 15), aI K 314 (M_s (M_rn v))), ((q 16), aI K 314 (M_aside (M_ex v))), ((q 17), aI K 314 (M_further (M_ex v))), ((q 18), aI K 314 (M_image (M_im v))), ((q 19), aI K 3 (M_sizeNow (M_rn v))), ((q 20), aI K 8 (M_aloneRegister (M_al v))), ((q 21), aI K 4 (M_aloneReal (M_al v))), ((q 22), aI K 32 (M_aloneMemory (M_al v))), ((q 23), aI K 999 (M_aloneOutput (M_al v)))]) (nn := 24) cx [.int (32 : Int32), .int ((M_s (M_rn v)) ((x5 + ((M_codeA (M_cd v)) x2.toNatClampNeg))).toNatClampNeg)] [] (m_M_leaderHolds l D K q ((M_tp v), (M_rd v), (M_lf v), (M_cd v), ((M_s (M_rn v)), (M_spanNow (M_rn v)), (M_sizeNow (M_rn v)), x11), (M_ex v), (M_im v), (M_al v), (M_thrown v)) (32 : Int32) ((M_s (M_rn v)) ((x5 + ((M_codeA (M_cd v)) x2.toNatClampNeg))).toNatClampNeg) hc94) (by (try simp only [cl_M, M_tape_mk, M_taped_mk, M_tp_mk, M_lines_mk, M_size_mk, M_at_mk, M_place_mk, M_sort_mk, M_value_mk, M_fault_mk, M_faultPlace_mk, M_isTold_mk, M_hasData_mk, M_rd_mk, M_lastFault_mk, M_lastPlace_mk, M_lf_mk, M_number_mk, M_codeSort_mk, M_codeA_mk, M_codeB_mk, M_codeC_mk, M_codeName_mk, M_codePlace_mk, M_codeTo_mk, M_labelName_mk, M_labelAt_mk, M_data_mk, M_cd_mk, M_s_mk, M_spanNow_mk, M_sizeNow_mk, M_placeThen_mk, M_rn_mk, M_aside_mk, M_further_mk, M_shotAlarm_mk, M_drawn_mk, M_ex_mk, M_image_mk, M_hasImage_mk, M_im_mk, M_alonePlace_mk, M_aloneSteps_mk, M_aloneOut_mk, M_aloneRegister_mk, M_aloneReal_mk, M_aloneMemory_mk, M_aloneOutput_mk, M_al_mk, M_thrown_mk, List.cons_append, List.nil_append, List.append_nil]) <;> rfl) yv_X10_leaderHolds wd_1619 ⟨rfl, rfl⟩ (by decide) (fr_s (j := 0) rfl rfl rfl (fr_s (j := 1) rfl rfl rfl (fr_s (j := 2) rfl rfl rfl (fr_s (j := 3) rfl rfl rfl (fr_s (j := 4) rfl rfl rfl (fr_s (j := 5) rfl rfl rfl (fr_s (j := 6) rfl rfl rfl (fr_s (j := 7) rfl rfl rfl (fr_s (j := 8) rfl rfl rfl (fr_s (j := 9) rfl rfl rfl (fr_s (j := 10) rfl rfl rfl (fr_s (j := 11) rfl rfl rfl (fr_s (j := 12) rfl rfl rfl (fr_s (j := 13) rfl rfl rfl (fr_s (j := 14) rfl rfl rfl (fr_s (j := 15) rfl rfl rfl (fr_s (j := 16) rfl rfl rfl (fr_s (j := 17) rfl rfl rfl (fr_s (j := 18) rfl rfl rfl (fr_s (j := 19) rfl rfl rfl (fr_s (j := 20) rfl rfl rfl (fr_s (j := 21) rfl rfl rfl (fr_s (j := 22) rfl rfl rfl (fr_s (j := 23) rfl rfl rfl (fr_n))))))))))))))))))))))))) rfl (by decide) 0 rfl rfl rfl (Nat.le_of_ble_eq_true rfl) dX10_stepped_398 ?_
                    refine r_goto (pc := 401) (tgt := 424) cx dX10_stepped_401 (by decide) ?_
                    refine r_istore (pc := 424) (loc' := [(7, .int r92), (6, .int x10), (5, .int x6), (4, .int x5), (3, .int x4), (2, .int x2), (0, .ref (q 0)), (1, .int a1)]) cx dX10_stepped_424 (by decide) rfl ?_
                    refine r_goto (pc := 426) (tgt := 686) cx dX10_stepped_426 (by decide) ?_
                    refine r_loc (loc' := [(0, .ref (q 0)), (1, .int a1), (7, .int r92)]) [6, 7, 0] rfl ?_
                    exact hJ14 _ _ hf
                · replace hf := ifn h83 hf
                  by_cases h95 : x4 = (15 : Int32)
                  · replace hf := ifp h95 hf
                    refine r_tin (pc := 65) (tgt := 429) cx (15 : Int32) h95 dX10_stepped_65 (by decide) (by decide) rfl (by decide) ?_
                    refine r_aload_n (pc := 429) cx dX10_stepped_429 6 rfl ?_
                    refine r_get (pc := 430) cx cf_X10 0 26 rfl (by decide) rfl wd_1342 dX10_stepped_430 ?_
                    refine r_iload (pc := 433) cx dX10_stepped_433 2 rfl ?_
                    refine r_aload_n (pc := 435) cx dX10_stepped_435 6 rfl ?_
                    refine r_get (pc := 436) cx cf_X10 0 6 rfl (by decide) rfl wd_1322 dX10_stepped_436 ?_
                    refine r_iload_n (pc := 439) cx dX10_stepped_439 5 rfl ?_
                    replace hf := chk_of hf
                    obtain ⟨h96, hf⟩ := hf
                    refine r_iald (pc := 440) cx 5 rfl h96 dX10_stepped_440 ?_
                    refine r_iadd (pc := 441) cx dX10_stepped_441 ?_
                    refine r_iload (pc := 442) cx dX10_stepped_442 1 rfl ?_
                    refine r_i2d (pc := 444) cx dX10_stepped_444 ?_
                    replace hf := bd_of hf
                    obtain ⟨r97, hc98, hf⟩ := hf
                    refine r_Si (pc := 445) (ws' := [((q 0), ob 9 [.int (M_thrown v), .ref (q 1), .int (M_taped (M_tp v)), .ref (q 2), .ref (q 3), .ref (q 4), .ref (q 5), .ref (q 6), .ref (q 7), .ref (q 8), .ref (q 9), .ref (q 10), .ref (q 11), .ref (q 12), .ref (q 13), .ref (q 14), .int (M_lines (M_rd v)), .int (M_size (M_rd v)), .int (M_at (M_rd v)), .int (M_place (M_rd v)), .int (M_sort (M_rd v)), .int (M_value (M_rd v)), .int (M_fault (M_rd v)), .int (M_faultPlace (M_rd v)), .int (M_lastFault (M_lf v)), .int (M_lastPlace (M_lf v)), .ref (q 15), .ref (q 16), .ref (q 17), .ref (q 18), .int (M_hasImage (M_im v)), .int (M_spanNow (M_rn v)), .ref (q 19), .int x11, .int (M_alonePlace (M_al v)), .int (M_aloneSteps (M_al v)), .int (M_aloneOut (M_al v)), .ref (q 20), .ref (q 21), .ref (q 22), .ref (q 23), .int (M_shotAlarm (M_ex v)), .int (M_drawn (M_ex v))]), ((q 1), aI K 700 (M_tape (M_tp v))), ((q 2), aI K 20 (M_number (M_cd v))), ((q 3), aZ K 5 (M_isTold (M_rd v))), ((q 4), aI K 80 (M_codeSort (M_cd v))), ((q 5), aI K 80 (M_codeA (M_cd v))), ((q 6), aI K 80 (M_codeB (M_cd v))), ((q 7), aI K 80 (M_codeC (M_cd v))), ((q 8), aI K 80 (M_codeName (M_cd v))), ((q 9), aI K 80 (M_codePlace (M_cd v))), ((q 10), aI K 80 (M_codeTo (M_cd v))), ((q 11), aI K 280 (M_labelName (M_cd v))), ((q 12), aI K 280 (M_labelAt (M_cd v))), ((q 13), aI K 64 (M_data (M_cd v))), ((q 14), aZ K 32 (M_hasData (M_rd v))), ((q 15), aI K 314 (M_s (M_rn v))), ((q 16), aI K 314 (M_aside (M_ex v))), ((q 17), aI K 314 (M_further (M_ex v))), ((q 18), aI K 314 (M_image (M_im v))), ((q 19), aI K 3 (M_sizeNow (M_rn v))), ((q 20), aI K 8 (M_aloneRegister (M_al v))), ((q 21), aI K 4 (M_aloneReal (M_al v))), ((q 22), aI K 32 (M_aloneMemory (M_al v))), ((q 23), aI K 999 (M_aloneOutput (M_al v)))]) (wc := []) (nn := 0) cx [.double (FP.i2d x10)] [.int (x6 + ((M_codeA (M_cd v)) x2.toNatClampNeg)), .ref (q 15)] (m_M_cut l D K (FP.i2d x10) hc98) rfl ys_X10_cut wd_1627 ⟨rfl, rfl⟩ (by decide) (fr_k (fr_k (fr_k (fr_k (fr_k (fr_k (fr_k (fr_k (fr_k (fr_k (fr_k (fr_k (fr_k (fr_k (fr_k (fr_k (fr_k (fr_k (fr_k (fr_k (fr_k (fr_k (fr_k (fr_k (fr_n))))))))))))))))))))))))) rfl (by decide) rfl (Nat.le_of_ble_eq_true rfl) dX10_stepped_445 ?_
                    replace hf := chk_of hf
                    obtain ⟨h99, hf⟩ := hf
                    replace hf := nm_of hf
                    obtain ⟨f100, ef100, hf⟩ := hf
                    refine r_iast (pc := 448) (ws' := [((q 0), ob 9 [.int (M_thrown v), .ref (q 1), .int (M_taped (M_tp v)), .ref (q 2), .ref (q 3), .ref (q 4), .ref (q 5), .ref (q 6), .ref (q 7), .ref (q 8), .ref (q 9), .ref (q 10), .ref (q 11), .ref (q 12), .ref (q 13), .ref (q 14), .int (M_lines (M_rd v)), .int (M_size (M_rd v)), .int (M_at (M_rd v)), .int (M_place (M_rd v)), .int (M_sort (M_rd v)), .int (M_value (M_rd v)), .int (M_fault (M_rd v)), .int (M_faultPlace (M_rd v)), .int (M_lastFault (M_lf v)), .int (M_lastPlace (M_lf v)), .ref (q 15), .ref (q 16), .ref (q 17), .ref (q 18), .int (M_hasImage (M_im v)), .int (M_spanNow (M_rn v)), .ref (q 19), .int x11, .int (M_alonePlace (M_al v)), .int (M_aloneSteps (M_al v)), .int (M_aloneOut (M_al v)), .ref (q 20), .ref (q 21), .ref (q 22), .ref (q 23), .int (M_shotAlarm (M_ex v)), .int (M_drawn (M_ex v))]), ((q 1), aI K 700 (M_tape (M_tp v))), ((q 2), aI K 20 (M_number (M_cd v))), ((q 3), aZ K 5 (M_isTold (M_rd v))), ((q 4), aI K 80 (M_codeSort (M_cd v))), ((q 5), aI K 80 (M_codeA (M_cd v))), ((q 6), aI K 80 (M_codeB (M_cd v))), ((q 7), aI K 80 (M_codeC (M_cd v))), ((q 8), aI K 80 (M_codeName (M_cd v))), ((q 9), aI K 80 (M_codePlace (M_cd v))), ((q 10), aI K 80 (M_codeTo (M_cd v))), ((q 11), aI K 280 (M_labelName (M_cd v))), ((q 12), aI K 280 (M_labelAt (M_cd v))), ((q 13), aI K 64 (M_data (M_cd v))), ((q 14), aZ K 32 (M_hasData (M_rd v))), ((q 15), aI K 314 f100), ((q 16), aI K 314 (M_aside (M_ex v))), ((q 17), aI K 314 (M_further (M_ex v))), ((q 18), aI K 314 (M_image (M_im v))), ((q 19), aI K 3 (M_sizeNow (M_rn v))), ((q 20), aI K 8 (M_aloneRegister (M_al v))), ((q 21), aI K 4 (M_aloneReal (M_al v))), ((q 22), aI K 32 (M_aloneMemory (M_al v))), ((q 23), aI K 999 (M_aloneOutput (M_al v)))]) cx 15 rfl h99 dX10_stepped_448 ef100 rfl ?_
                    refine r_goto (pc := 449) (tgt := 686) cx dX10_stepped_449 (by decide) ?_
                    refine r_loc (loc' := [(0, .ref (q 0)), (1, .int a1), (7, .int (0 : Int32))]) [6, 7, 0] rfl ?_
                    exact hJ14 _ _ hf
                  · replace hf := ifn h95 hf
                    by_cases h101 : x4 = (16 : Int32)
                    · replace hf := ifp h101 hf
                      refine r_tin (pc := 65) (tgt := 452) cx (16 : Int32) h101 dX10_stepped_65 (by decide) (by decide) rfl (by decide) ?_
                      refine r_aload_n (pc := 452) cx dX10_stepped_452 6 rfl ?_
                      refine r_get (pc := 453) cx cf_X10 0 26 rfl (by decide) rfl wd_1342 dX10_stepped_453 ?_
                      refine r_iload (pc := 456) cx dX10_stepped_456 3 rfl ?_
                      refine r_aload_n (pc := 458) cx dX10_stepped_458 6 rfl ?_
                      refine r_get (pc := 459) cx cf_X10 0 6 rfl (by decide) rfl wd_1322 dX10_stepped_459 ?_
                      refine r_iload_n (pc := 462) cx dX10_stepped_462 5 rfl ?_
                      replace hf := chk_of hf
                      obtain ⟨h102, hf⟩ := hf
                      refine r_iald (pc := 463) cx 5 rfl h102 dX10_stepped_463 ?_
                      refine r_iadd (pc := 464) cx dX10_stepped_464 ?_
                      refine r_aload_n (pc := 465) cx dX10_stepped_465 6 rfl ?_
                      refine r_get (pc := 466) cx cf_X10 0 26 rfl (by decide) rfl wd_1342 dX10_stepped_466 ?_
                      refine r_iload (pc := 469) cx dX10_stepped_469 2 rfl ?_
                      refine r_aload_n (pc := 471) cx dX10_stepped_471 6 rfl ?_
                      refine r_get (pc := 472) cx cf_X10 0 7 rfl (by decide) rfl wd_1323 dX10_stepped_472 ?_
                      refine r_iload_n (pc := 475) cx dX10_stepped_475 5 rfl ?_
                      replace hf := chk_of hf
                      obtain ⟨h103, hf⟩ := hf
                      refine r_iald (pc := 476) cx 6 rfl h103 dX10_stepped_476 ?_
                      refine r_iadd (pc := 477) cx dX10_stepped_477 ?_
                      replace hf := chk_of hf
                      obtain ⟨h104, hf⟩ := hf
                      refine r_iald (pc := 478) cx 15 rfl h104 dX10_stepped_478 ?_
                      replace hf := bd_of hf
                      obtain ⟨r105, hc106, hf⟩ := hf
                      refine r_Si (pc := 479) (ws' := [((q 0), ob 9 [.int (M_thrown v), .ref (q 1), .int (M_taped (M_tp v)), .ref (q 2), .ref (q 3), .ref (q 4), .ref (q 5), .ref (q 6), .ref (q 7), .ref (q 8), .ref (q 9), .ref (q 10), .ref (q 11), .ref (q 12), .ref (q 13), .ref (q 14), .int (M_lines (M_rd v)), .int (M_size (M_rd v)), .int (M_at (M_rd v)), .int (M_place (M_rd v)), .int (M_sort (M_rd v)), .int (M_value (M_rd v)), .int (M_fault (M_rd v)), .int (M_faultPlace (M_rd v)), .int (M_lastFault (M_lf v)), .int (M_lastPlace (M_lf v)), .ref (q 15), .ref (q 16), .ref (q 17), .ref (q 18), .int (M_hasImage (M_im v)), .int (M_spanNow (M_rn v)), .ref (q 19), .int x11, .int (M_alonePlace (M_al v)), .int (M_aloneSteps (M_al v)), .int (M_aloneOut (M_al v)), .ref (q 20), .ref (q 21), .ref (q 22), .ref (q 23), .int (M_shotAlarm (M_ex v)), .int (M_drawn (M_ex v))]), ((q 1), aI K 700 (M_tape (M_tp v))), ((q 2), aI K 20 (M_number (M_cd v))), ((q 3), aZ K 5 (M_isTold (M_rd v))), ((q 4), aI K 80 (M_codeSort (M_cd v))), ((q 5), aI K 80 (M_codeA (M_cd v))), ((q 6), aI K 80 (M_codeB (M_cd v))), ((q 7), aI K 80 (M_codeC (M_cd v))), ((q 8), aI K 80 (M_codeName (M_cd v))), ((q 9), aI K 80 (M_codePlace (M_cd v))), ((q 10), aI K 80 (M_codeTo (M_cd v))), ((q 11), aI K 280 (M_labelName (M_cd v))), ((q 12), aI K 280 (M_labelAt (M_cd v))), ((q 13), aI K 64 (M_data (M_cd v))), ((q 14), aZ K 32 (M_hasData (M_rd v))), ((q 15), aI K 314 (M_s (M_rn v))), ((q 16), aI K 314 (M_aside (M_ex v))), ((q 17), aI K 314 (M_further (M_ex v))), ((q 18), aI K 314 (M_image (M_im v))), ((q 19), aI K 3 (M_sizeNow (M_rn v))), ((q 20), aI K 8 (M_aloneRegister (M_al v))), ((q 21), aI K 4 (M_aloneReal (M_al v))), ((q 22), aI K 32 (M_aloneMemory (M_al v))), ((q 23), aI K 999 (M_aloneOutput (M_al v)))]) (wc := []) (nn := 0) cx [.int ((M_s (M_rn v)) ((x6 + ((M_codeB (M_cd v)) x2.toNatClampNeg))).toNatClampNeg)] [.int (x5 + ((M_codeA (M_cd v)) x2.toNatClampNeg)), .ref (q 15)] (m_M_whole l D K ((M_s (M_rn v)) ((x6 + ((M_codeB (M_cd v)) x2.toNatClampNeg))).toNatClampNeg) hc106) rfl ys_X10_whole wd_1640 ⟨rfl, rfl⟩ (by decide) (fr_k (fr_k (fr_k (fr_k (fr_k (fr_k (fr_k (fr_k (fr_k (fr_k (fr_k (fr_k (fr_k (fr_k (fr_k (fr_k (fr_k (fr_k (fr_k (fr_k (fr_k (fr_k (fr_k (fr_k (fr_n))))))))))))))))))))))))) rfl (by decide) rfl (Nat.le_of_ble_eq_true rfl) dX10_stepped_479 ?_
                      replace hf := chk_of hf
                      obtain ⟨h107, hf⟩ := hf
                      replace hf := nm_of hf
                      obtain ⟨f108, ef108, hf⟩ := hf
                      refine r_iast (pc := 482) (ws' := [((q 0), ob 9 [.int (M_thrown v), .ref (q 1), .int (M_taped (M_tp v)), .ref (q 2), .ref (q 3), .ref (q 4), .ref (q 5), .ref (q 6), .ref (q 7), .ref (q 8), .ref (q 9), .ref (q 10), .ref (q 11), .ref (q 12), .ref (q 13), .ref (q 14), .int (M_lines (M_rd v)), .int (M_size (M_rd v)), .int (M_at (M_rd v)), .int (M_place (M_rd v)), .int (M_sort (M_rd v)), .int (M_value (M_rd v)), .int (M_fault (M_rd v)), .int (M_faultPlace (M_rd v)), .int (M_lastFault (M_lf v)), .int (M_lastPlace (M_lf v)), .ref (q 15), .ref (q 16), .ref (q 17), .ref (q 18), .int (M_hasImage (M_im v)), .int (M_spanNow (M_rn v)), .ref (q 19), .int x11, .int (M_alonePlace (M_al v)), .int (M_aloneSteps (M_al v)), .int (M_aloneOut (M_al v)), .ref (q 20), .ref (q 21), .ref (q 22), .ref (q 23), .int (M_shotAlarm (M_ex v)), .int (M_drawn (M_ex v))]), ((q 1), aI K 700 (M_tape (M_tp v))), ((q 2), aI K 20 (M_number (M_cd v))), ((q 3), aZ K 5 (M_isTold (M_rd v))), ((q 4), aI K 80 (M_codeSort (M_cd v))), ((q 5), aI K 80 (M_codeA (M_cd v))), ((q 6), aI K 80 (M_codeB (M_cd v))), ((q 7), aI K 80 (M_codeC (M_cd v))), ((q 8), aI K 80 (M_codeName (M_cd v))), ((q 9), aI K 80 (M_codePlace (M_cd v))), ((q 10), aI K 80 (M_codeTo (M_cd v))), ((q 11), aI K 280 (M_labelName (M_cd v))), ((q 12), aI K 280 (M_labelAt (M_cd v))), ((q 13), aI K 64 (M_data (M_cd v))), ((q 14), aZ K 32 (M_hasData (M_rd v))), ((q 15), aI K 314 f108), ((q 16), aI K 314 (M_aside (M_ex v))), ((q 17), aI K 314 (M_further (M_ex v))), ((q 18), aI K 314 (M_image (M_im v))), ((q 19), aI K 3 (M_sizeNow (M_rn v))), ((q 20), aI K 8 (M_aloneRegister (M_al v))), ((q 21), aI K 4 (M_aloneReal (M_al v))), ((q 22), aI K 32 (M_aloneMemory (M_al v))), ((q 23), aI K 999 (M_aloneOutput (M_al v)))]) cx 15 rfl h107 dX10_stepped_482 ef108 rfl ?_
                      refine r_goto (pc := 483) (tgt := 686) cx dX10_stepped_483 (by decide) ?_
                      refine r_loc (loc' := [(0, .ref (q 0)), (1, .int a1), (7, .int (0 : Int32))]) [6, 7, 0] rfl ?_
                      exact hJ14 _ _ hf
                    · replace hf := ifn h101 hf
                      by_cases h109 : x4 = (17 : Int32)
                      · replace hf := ifp h109 hf
                        refine r_tin (pc := 65) (tgt := 486) cx (17 : Int32) h109 dX10_stepped_65 (by decide) (by decide) rfl (by decide) ?_
                        refine r_aload_n (pc := 486) cx dX10_stepped_486 6 rfl ?_
                        refine r_get (pc := 487) cx cf_X10 0 26 rfl (by decide) rfl wd_1342 dX10_stepped_487 ?_
                        refine r_iload (pc := 490) cx dX10_stepped_490 3 rfl ?_
                        refine r_aload_n (pc := 492) cx dX10_stepped_492 6 rfl ?_
                        refine r_get (pc := 493) cx cf_X10 0 6 rfl (by decide) rfl wd_1322 dX10_stepped_493 ?_
                        refine r_iload_n (pc := 496) cx dX10_stepped_496 5 rfl ?_
                        replace hf := chk_of hf
                        obtain ⟨h110, hf⟩ := hf
                        refine r_iald (pc := 497) cx 5 rfl h110 dX10_stepped_497 ?_
                        refine r_iadd (pc := 498) cx dX10_stepped_498 ?_
                        refine r_aload_n (pc := 499) cx dX10_stepped_499 6 rfl ?_
                        refine r_get (pc := 500) cx cf_X10 0 26 rfl (by decide) rfl wd_1342 dX10_stepped_500 ?_
                        refine r_iload (pc := 503) cx dX10_stepped_503 2 rfl ?_
                        refine r_aload_n (pc := 505) cx dX10_stepped_505 6 rfl ?_
                        refine r_get (pc := 506) cx cf_X10 0 7 rfl (by decide) rfl wd_1323 dX10_stepped_506 ?_
                        refine r_iload_n (pc := 509) cx dX10_stepped_509 5 rfl ?_
                        replace hf := chk_of hf
                        obtain ⟨h111, hf⟩ := hf
                        refine r_iald (pc := 510) cx 6 rfl h111 dX10_stepped_510 ?_
                        refine r_iadd (pc := 511) cx dX10_stepped_511 ?_
                        replace hf := chk_of hf
                        obtain ⟨h112, hf⟩ := hf
                        refine r_iald (pc := 512) cx 15 rfl h112 dX10_stepped_512 ?_
                        replace hf := nm_of hf
                        obtain ⟨x113, ex113, hf⟩ := hf
                        refine r_nm ex113 ?_
                        replace hf := chk_of hf
                        obtain ⟨h114, hf⟩ := hf
                        replace hf := nm_of hf
                        obtain ⟨f115, ef115, hf⟩ := hf
                        refine r_iast (pc := 513) (ws' := [((q 0), ob 9 [.int (M_thrown v), .ref (q 1), .int (M_taped (M_tp v)), .ref (q 2), .ref (q 3), .ref (q 4), .ref (q 5), .ref (q 6), .ref (q 7), .ref (q 8), .ref (q 9), .ref (q 10), .ref (q 11), .ref (q 12), .ref (q 13), .ref (q 14), .int (M_lines (M_rd v)), .int (M_size (M_rd v)), .int (M_at (M_rd v)), .int (M_place (M_rd v)), .int (M_sort (M_rd v)), .int (M_value (M_rd v)), .int (M_fault (M_rd v)), .int (M_faultPlace (M_rd v)), .int (M_lastFault (M_lf v)), .int (M_lastPlace (M_lf v)), .ref (q 15), .ref (q 16), .ref (q 17), .ref (q 18), .int (M_hasImage (M_im v)), .int (M_spanNow (M_rn v)), .ref (q 19), .int x11, .int (M_alonePlace (M_al v)), .int (M_aloneSteps (M_al v)), .int (M_aloneOut (M_al v)), .ref (q 20), .ref (q 21), .ref (q 22), .ref (q 23), .int (M_shotAlarm (M_ex v)), .int (M_drawn (M_ex v))]), ((q 1), aI K 700 (M_tape (M_tp v))), ((q 2), aI K 20 (M_number (M_cd v))), ((q 3), aZ K 5 (M_isTold (M_rd v))), ((q 4), aI K 80 (M_codeSort (M_cd v))), ((q 5), aI K 80 (M_codeA (M_cd v))), ((q 6), aI K 80 (M_codeB (M_cd v))), ((q 7), aI K 80 (M_codeC (M_cd v))), ((q 8), aI K 80 (M_codeName (M_cd v))), ((q 9), aI K 80 (M_codePlace (M_cd v))), ((q 10), aI K 80 (M_codeTo (M_cd v))), ((q 11), aI K 280 (M_labelName (M_cd v))), ((q 12), aI K 280 (M_labelAt (M_cd v))), ((q 13), aI K 64 (M_data (M_cd v))), ((q 14), aZ K 32 (M_hasData (M_rd v))), ((q 15), aI K 314 f115), ((q 16), aI K 314 (M_aside (M_ex v))), ((q 17), aI K 314 (M_further (M_ex v))), ((q 18), aI K 314 (M_image (M_im v))), ((q 19), aI K 3 (M_sizeNow (M_rn v))), ((q 20), aI K 8 (M_aloneRegister (M_al v))), ((q 21), aI K 4 (M_aloneReal (M_al v))), ((q 22), aI K 32 (M_aloneMemory (M_al v))), ((q 23), aI K 999 (M_aloneOutput (M_al v)))]) cx 15 rfl h114 dX10_stepped_513 ef115 rfl ?_
                        refine r_goto (pc := 514) (tgt := 686) cx dX10_stepped_514 (by decide) ?_
                        refine r_loc (loc' := [(0, .ref (q 0)), (1, .int a1), (7, .int (0 : Int32))]) [6, 7, 0] rfl ?_
                        exact hJ14 _ _ hf
                      · replace hf := ifn h109 hf
                        by_cases h116 : x4 = (18 : Int32)
                        · replace hf := ifp h116 hf
                          refine r_tin (pc := 65) (tgt := 517) cx (18 : Int32) h116 dX10_stepped_65 (by decide) (by decide) rfl (by decide) ?_
                          refine r_aload_n (pc := 517) cx dX10_stepped_517 6 rfl ?_
                          refine r_get (pc := 518) cx cf_X10 0 26 rfl (by decide) rfl wd_1342 dX10_stepped_518 ?_
                          refine r_iload (pc := 521) cx dX10_stepped_521 2 rfl ?_
                          refine r_aload_n (pc := 523) cx dX10_stepped_523 6 rfl ?_
                          refine r_get (pc := 524) cx cf_X10 0 6 rfl (by decide) rfl wd_1322 dX10_stepped_524 ?_
                          refine r_iload_n (pc := 527) cx dX10_stepped_527 5 rfl ?_
                          replace hf := chk_of hf
                          obtain ⟨h117, hf⟩ := hf
                          refine r_iald (pc := 528) cx 5 rfl h117 dX10_stepped_528 ?_
                          refine r_iadd (pc := 529) cx dX10_stepped_529 ?_
                          refine r_aload_n (pc := 530) cx dX10_stepped_530 6 rfl ?_
                          refine r_get (pc := 531) cx cf_X10 0 26 rfl (by decide) rfl wd_1342 dX10_stepped_531 ?_
                          refine r_iload (pc := 534) cx dX10_stepped_534 2 rfl ?_
                          refine r_aload_n (pc := 536) cx dX10_stepped_536 6 rfl ?_
                          refine r_get (pc := 537) cx cf_X10 0 7 rfl (by decide) rfl wd_1323 dX10_stepped_537 ?_
                          refine r_iload_n (pc := 540) cx dX10_stepped_540 5 rfl ?_
                          replace hf := chk_of hf
                          obtain ⟨h118, hf⟩ := hf
                          refine r_iald (pc := 541) cx 6 rfl h118 dX10_stepped_541 ?_
                          refine r_iadd (pc := 542) cx dX10_stepped_542 ?_
                          replace hf := chk_of hf
                          obtain ⟨h119, hf⟩ := hf
                          refine r_iald (pc := 543) cx 15 rfl h119 dX10_stepped_543 ?_
                          refine r_aload_n (pc := 544) cx dX10_stepped_544 6 rfl ?_
                          refine r_get (pc := 545) cx cf_X10 0 26 rfl (by decide) rfl wd_1342 dX10_stepped_545 ?_
                          refine r_iload (pc := 548) cx dX10_stepped_548 2 rfl ?_
                          refine r_aload_n (pc := 550) cx dX10_stepped_550 6 rfl ?_
                          refine r_get (pc := 551) cx cf_X10 0 8 rfl (by decide) rfl wd_1324 dX10_stepped_551 ?_
                          refine r_iload_n (pc := 554) cx dX10_stepped_554 5 rfl ?_
                          replace hf := chk_of hf
                          obtain ⟨h120, hf⟩ := hf
                          refine r_iald (pc := 555) cx 7 rfl h120 dX10_stepped_555 ?_
                          refine r_iadd (pc := 556) cx dX10_stepped_556 ?_
                          replace hf := chk_of hf
                          obtain ⟨h121, hf⟩ := hf
                          refine r_iald (pc := 557) cx 15 rfl h121 dX10_stepped_557 ?_
                          replace hf := bd_of hf
                          obtain ⟨r122, hc123, hf⟩ := hf
                          refine r_Si (pc := 558) (ws' := [((q 0), ob 9 [.int (M_thrown v), .ref (q 1), .int (M_taped (M_tp v)), .ref (q 2), .ref (q 3), .ref (q 4), .ref (q 5), .ref (q 6), .ref (q 7), .ref (q 8), .ref (q 9), .ref (q 10), .ref (q 11), .ref (q 12), .ref (q 13), .ref (q 14), .int (M_lines (M_rd v)), .int (M_size (M_rd v)), .int (M_at (M_rd v)), .int (M_place (M_rd v)), .int (M_sort (M_rd v)), .int (M_value (M_rd v)), .int (M_fault (M_rd v)), .int (M_faultPlace (M_rd v)), .int (M_lastFault (M_lf v)), .int (M_lastPlace (M_lf v)), .ref (q 15), .ref (q 16), .ref (q 17), .ref (q 18), .int (M_hasImage (M_im v)), .int (M_spanNow (M_rn v)), .ref (q 19), .int x11, .int (M_alonePlace (M_al v)), .int (M_aloneSteps (M_al v)), .int (M_aloneOut (M_al v)), .ref (q 20), .ref (q 21), .ref (q 22), .ref (q 23), .int (M_shotAlarm (M_ex v)), .int (M_drawn (M_ex v))]), ((q 1), aI K 700 (M_tape (M_tp v))), ((q 2), aI K 20 (M_number (M_cd v))), ((q 3), aZ K 5 (M_isTold (M_rd v))), ((q 4), aI K 80 (M_codeSort (M_cd v))), ((q 5), aI K 80 (M_codeA (M_cd v))), ((q 6), aI K 80 (M_codeB (M_cd v))), ((q 7), aI K 80 (M_codeC (M_cd v))), ((q 8), aI K 80 (M_codeName (M_cd v))), ((q 9), aI K 80 (M_codePlace (M_cd v))), ((q 10), aI K 80 (M_codeTo (M_cd v))), ((q 11), aI K 280 (M_labelName (M_cd v))), ((q 12), aI K 280 (M_labelAt (M_cd v))), ((q 13), aI K 64 (M_data (M_cd v))), ((q 14), aZ K 32 (M_hasData (M_rd v))), ((q 15), aI K 314 (M_s (M_rn v))), ((q 16), aI K 314 (M_aside (M_ex v))), ((q 17), aI K 314 (M_further (M_ex v))), ((q 18), aI K 314 (M_image (M_im v))), ((q 19), aI K 3 (M_sizeNow (M_rn v))), ((q 20), aI K 8 (M_aloneRegister (M_al v))), ((q 21), aI K 4 (M_aloneReal (M_al v))), ((q 22), aI K 32 (M_aloneMemory (M_al v))), ((q 23), aI K 999 (M_aloneOutput (M_al v)))]) (wc := []) (nn := 0) cx [.int ((M_s (M_rn v)) ((x6 + ((M_codeB (M_cd v)) x2.toNatClampNeg))).toNatClampNeg), .int ((M_s (M_rn v)) ((x6 + ((M_codeC (M_cd v)) x2.toNatClampNeg))).toNatClampNeg)] [.int (x6 + ((M_codeA (M_cd v)) x2.toNatClampNeg)), .ref (q 15)] (m_M_added l D K ((M_s (M_rn v)) ((x6 + ((M_codeB (M_cd v)) x2.toNatClampNeg))).toNatClampNeg) ((M_s (M_rn v)) ((x6 + ((M_codeC (M_cd v)) x2.toNatClampNeg))).toNatClampNeg) hc123) rfl ys_X10_added wd_1653 ⟨rfl, rfl⟩ (by decide) (fr_k (fr_k (fr_k (fr_k (fr_k (fr_k (fr_k (fr_k (fr_k (fr_k (fr_k (fr_k (fr_k (fr_k (fr_k (fr_k (fr_k (fr_k (fr_k (fr_k (fr_k (fr_k (fr_k (fr_k (fr_n))))))))))))))))))))))))) rfl (by decide) rfl (Nat.le_of_ble_eq_true rfl) dX10_stepped_558 ?_
                          replace hf := chk_of hf
                          obtain ⟨h124, hf⟩ := hf
                          replace hf := nm_of hf
                          obtain ⟨f125, ef125, hf⟩ := hf
                          refine r_iast (pc := 561) (ws' := [((q 0), ob 9 [.int (M_thrown v), .ref (q 1), .int (M_taped (M_tp v)), .ref (q 2), .ref (q 3), .ref (q 4), .ref (q 5), .ref (q 6), .ref (q 7), .ref (q 8), .ref (q 9), .ref (q 10), .ref (q 11), .ref (q 12), .ref (q 13), .ref (q 14), .int (M_lines (M_rd v)), .int (M_size (M_rd v)), .int (M_at (M_rd v)), .int (M_place (M_rd v)), .int (M_sort (M_rd v)), .int (M_value (M_rd v)), .int (M_fault (M_rd v)), .int (M_faultPlace (M_rd v)), .int (M_lastFault (M_lf v)), .int (M_lastPlace (M_lf v)), .ref (q 15), .ref (q 16), .ref (q 17), .ref (q 18), .int (M_hasImage (M_im v)), .int (M_spanNow (M_rn v)), .ref (q 19), .int x11, .int (M_alonePlace (M_al v)), .int (M_aloneSteps (M_al v)), .int (M_aloneOut (M_al v)), .ref (q 20), .ref (q 21), .ref (q 22), .ref (q 23), .int (M_shotAlarm (M_ex v)), .int (M_drawn (M_ex v))]), ((q 1), aI K 700 (M_tape (M_tp v))), ((q 2), aI K 20 (M_number (M_cd v))), ((q 3), aZ K 5 (M_isTold (M_rd v))), ((q 4), aI K 80 (M_codeSort (M_cd v))), ((q 5), aI K 80 (M_codeA (M_cd v))), ((q 6), aI K 80 (M_codeB (M_cd v))), ((q 7), aI K 80 (M_codeC (M_cd v))), ((q 8), aI K 80 (M_codeName (M_cd v))), ((q 9), aI K 80 (M_codePlace (M_cd v))), ((q 10), aI K 80 (M_codeTo (M_cd v))), ((q 11), aI K 280 (M_labelName (M_cd v))), ((q 12), aI K 280 (M_labelAt (M_cd v))), ((q 13), aI K 64 (M_data (M_cd v))), ((q 14), aZ K 32 (M_hasData (M_rd v))), ((q 15), aI K 314 f125), ((q 16), aI K 314 (M_aside (M_ex v))), ((q 17), aI K 314 (M_further (M_ex v))), ((q 18), aI K 314 (M_image (M_im v))), ((q 19), aI K 3 (M_sizeNow (M_rn v))), ((q 20), aI K 8 (M_aloneRegister (M_al v))), ((q 21), aI K 4 (M_aloneReal (M_al v))), ((q 22), aI K 32 (M_aloneMemory (M_al v))), ((q 23), aI K 999 (M_aloneOutput (M_al v)))]) cx 15 rfl h124 dX10_stepped_561 ef125 rfl ?_
                          refine r_goto (pc := 562) (tgt := 686) cx dX10_stepped_562 (by decide) ?_
                          refine r_loc (loc' := [(0, .ref (q 0)), (1, .int a1), (7, .int (0 : Int32))]) [6, 7, 0] rfl ?_
                          exact hJ14 _ _ hf
                        · replace hf := ifn h116 hf
                          by_cases h126 : x4 = (19 : Int32)
                          · replace hf := ifp h126 hf
                            refine r_tin (pc := 65) (tgt := 565) cx (19 : Int32) h126 dX10_stepped_65 (by decide) (by decide) rfl (by decide) ?_
                            refine r_aload_n (pc := 565) cx dX10_stepped_565 6 rfl ?_
                            refine r_get (pc := 566) cx cf_X10 0 26 rfl (by decide) rfl wd_1342 dX10_stepped_566 ?_
                            refine r_iload (pc := 569) cx dX10_stepped_569 2 rfl ?_
                            refine r_aload_n (pc := 571) cx dX10_stepped_571 6 rfl ?_
                            refine r_get (pc := 572) cx cf_X10 0 6 rfl (by decide) rfl wd_1322 dX10_stepped_572 ?_
                            refine r_iload_n (pc := 575) cx dX10_stepped_575 5 rfl ?_
                            replace hf := chk_of hf
                            obtain ⟨h127, hf⟩ := hf
                            refine r_iald (pc := 576) cx 5 rfl h127 dX10_stepped_576 ?_
                            refine r_iadd (pc := 577) cx dX10_stepped_577 ?_
                            refine r_aload_n (pc := 578) cx dX10_stepped_578 6 rfl ?_
                            refine r_get (pc := 579) cx cf_X10 0 26 rfl (by decide) rfl wd_1342 dX10_stepped_579 ?_
                            refine r_iload (pc := 582) cx dX10_stepped_582 2 rfl ?_
                            refine r_aload_n (pc := 584) cx dX10_stepped_584 6 rfl ?_
                            refine r_get (pc := 585) cx cf_X10 0 7 rfl (by decide) rfl wd_1323 dX10_stepped_585 ?_
                            refine r_iload_n (pc := 588) cx dX10_stepped_588 5 rfl ?_
                            replace hf := chk_of hf
                            obtain ⟨h128, hf⟩ := hf
                            refine r_iald (pc := 589) cx 6 rfl h128 dX10_stepped_589 ?_
                            refine r_iadd (pc := 590) cx dX10_stepped_590 ?_
                            replace hf := chk_of hf
                            obtain ⟨h129, hf⟩ := hf
                            refine r_iald (pc := 591) cx 15 rfl h129 dX10_stepped_591 ?_
                            refine r_aload_n (pc := 592) cx dX10_stepped_592 6 rfl ?_
                            refine r_get (pc := 593) cx cf_X10 0 26 rfl (by decide) rfl wd_1342 dX10_stepped_593 ?_
                            refine r_iload (pc := 596) cx dX10_stepped_596 2 rfl ?_
                            refine r_aload_n (pc := 598) cx dX10_stepped_598 6 rfl ?_
                            refine r_get (pc := 599) cx cf_X10 0 8 rfl (by decide) rfl wd_1324 dX10_stepped_599 ?_
                            refine r_iload_n (pc := 602) cx dX10_stepped_602 5 rfl ?_
                            replace hf := chk_of hf
                            obtain ⟨h130, hf⟩ := hf
                            refine r_iald (pc := 603) cx 7 rfl h130 dX10_stepped_603 ?_
                            refine r_iadd (pc := 604) cx dX10_stepped_604 ?_
                            replace hf := chk_of hf
                            obtain ⟨h131, hf⟩ := hf
                            refine r_iald (pc := 605) cx 15 rfl h131 dX10_stepped_605 ?_
                            replace hf := bd_of hf
                            obtain ⟨r132, hc133, hf⟩ := hf
                            refine r_Si (pc := 606) (ws' := [((q 0), ob 9 [.int (M_thrown v), .ref (q 1), .int (M_taped (M_tp v)), .ref (q 2), .ref (q 3), .ref (q 4), .ref (q 5), .ref (q 6), .ref (q 7), .ref (q 8), .ref (q 9), .ref (q 10), .ref (q 11), .ref (q 12), .ref (q 13), .ref (q 14), .int (M_lines (M_rd v)), .int (M_size (M_rd v)), .int (M_at (M_rd v)), .int (M_place (M_rd v)), .int (M_sort (M_rd v)), .int (M_value (M_rd v)), .int (M_fault (M_rd v)), .int (M_faultPlace (M_rd v)), .int (M_lastFault (M_lf v)), .int (M_lastPlace (M_lf v)), .ref (q 15), .ref (q 16), .ref (q 17), .ref (q 18), .int (M_hasImage (M_im v)), .int (M_spanNow (M_rn v)), .ref (q 19), .int x11, .int (M_alonePlace (M_al v)), .int (M_aloneSteps (M_al v)), .int (M_aloneOut (M_al v)), .ref (q 20), .ref (q 21), .ref (q 22), .ref (q 23), .int (M_shotAlarm (M_ex v)), .int (M_drawn (M_ex v))]), ((q 1), aI K 700 (M_tape (M_tp v))), ((q 2), aI K 20 (M_number (M_cd v))), ((q 3), aZ K 5 (M_isTold (M_rd v))), ((q 4), aI K 80 (M_codeSort (M_cd v))), ((q 5), aI K 80 (M_codeA (M_cd v))), ((q 6), aI K 80 (M_codeB (M_cd v))), ((q 7), aI K 80 (M_codeC (M_cd v))), ((q 8), aI K 80 (M_codeName (M_cd v))), ((q 9), aI K 80 (M_codePlace (M_cd v))), ((q 10), aI K 80 (M_codeTo (M_cd v))), ((q 11), aI K 280 (M_labelName (M_cd v))), ((q 12), aI K 280 (M_labelAt (M_cd v))), ((q 13), aI K 64 (M_data (M_cd v))), ((q 14), aZ K 32 (M_hasData (M_rd v))), ((q 15), aI K 314 (M_s (M_rn v))), ((q 16), aI K 314 (M_aside (M_ex v))), ((q 17), aI K 314 (M_further (M_ex v))), ((q 18), aI K 314 (M_image (M_im v))), ((q 19), aI K 3 (M_sizeNow (M_rn v))), ((q 20), aI K 8 (M_aloneRegister (M_al v))), ((q 21), aI K 4 (M_aloneReal (M_al v))), ((q 22), aI K 32 (M_aloneMemory (M_al v))), ((q 23), aI K 999 (M_aloneOutput (M_al v)))]) (wc := []) (nn := 0) cx [.int ((M_s (M_rn v)) ((x6 + ((M_codeB (M_cd v)) x2.toNatClampNeg))).toNatClampNeg), .int ((M_s (M_rn v)) ((x6 + ((M_codeC (M_cd v)) x2.toNatClampNeg))).toNatClampNeg)] [.int (x6 + ((M_codeA (M_cd v)) x2.toNatClampNeg)), .ref (q 15)] (m_M_multiplied l D K ((M_s (M_rn v)) ((x6 + ((M_codeB (M_cd v)) x2.toNatClampNeg))).toNatClampNeg) ((M_s (M_rn v)) ((x6 + ((M_codeC (M_cd v)) x2.toNatClampNeg))).toNatClampNeg) hc133) rfl ys_X10_multiplied wd_1657 ⟨rfl, rfl⟩ (by decide) (fr_k (fr_k (fr_k (fr_k (fr_k (fr_k (fr_k (fr_k (fr_k (fr_k (fr_k (fr_k (fr_k (fr_k (fr_k (fr_k (fr_k (fr_k (fr_k (fr_k (fr_k (fr_k (fr_k (fr_k (fr_n))))))))))))))))))))))))) rfl (by decide) rfl (Nat.le_of_ble_eq_true rfl) dX10_stepped_606 ?_
                            replace hf := chk_of hf
                            obtain ⟨h134, hf⟩ := hf
                            replace hf := nm_of hf
                            obtain ⟨f135, ef135, hf⟩ := hf
                            refine r_iast (pc := 609) (ws' := [((q 0), ob 9 [.int (M_thrown v), .ref (q 1), .int (M_taped (M_tp v)), .ref (q 2), .ref (q 3), .ref (q 4), .ref (q 5), .ref (q 6), .ref (q 7), .ref (q 8), .ref (q 9), .ref (q 10), .ref (q 11), .ref (q 12), .ref (q 13), .ref (q 14), .int (M_lines (M_rd v)), .int (M_size (M_rd v)), .int (M_at (M_rd v)), .int (M_place (M_rd v)), .int (M_sort (M_rd v)), .int (M_value (M_rd v)), .int (M_fault (M_rd v)), .int (M_faultPlace (M_rd v)), .int (M_lastFault (M_lf v)), .int (M_lastPlace (M_lf v)), .ref (q 15), .ref (q 16), .ref (q 17), .ref (q 18), .int (M_hasImage (M_im v)), .int (M_spanNow (M_rn v)), .ref (q 19), .int x11, .int (M_alonePlace (M_al v)), .int (M_aloneSteps (M_al v)), .int (M_aloneOut (M_al v)), .ref (q 20), .ref (q 21), .ref (q 22), .ref (q 23), .int (M_shotAlarm (M_ex v)), .int (M_drawn (M_ex v))]), ((q 1), aI K 700 (M_tape (M_tp v))), ((q 2), aI K 20 (M_number (M_cd v))), ((q 3), aZ K 5 (M_isTold (M_rd v))), ((q 4), aI K 80 (M_codeSort (M_cd v))), ((q 5), aI K 80 (M_codeA (M_cd v))), ((q 6), aI K 80 (M_codeB (M_cd v))), ((q 7), aI K 80 (M_codeC (M_cd v))), ((q 8), aI K 80 (M_codeName (M_cd v))), ((q 9), aI K 80 (M_codePlace (M_cd v))), ((q 10), aI K 80 (M_codeTo (M_cd v))), ((q 11), aI K 280 (M_labelName (M_cd v))), ((q 12), aI K 280 (M_labelAt (M_cd v))), ((q 13), aI K 64 (M_data (M_cd v))), ((q 14), aZ K 32 (M_hasData (M_rd v))), ((q 15), aI K 314 f135), ((q 16), aI K 314 (M_aside (M_ex v))), ((q 17), aI K 314 (M_further (M_ex v))), ((q 18), aI K 314 (M_image (M_im v))), ((q 19), aI K 3 (M_sizeNow (M_rn v))), ((q 20), aI K 8 (M_aloneRegister (M_al v))), ((q 21), aI K 4 (M_aloneReal (M_al v))), ((q 22), aI K 32 (M_aloneMemory (M_al v))), ((q 23), aI K 999 (M_aloneOutput (M_al v)))]) cx 15 rfl h134 dX10_stepped_609 ef135 rfl ?_
                            refine r_goto (pc := 610) (tgt := 686) cx dX10_stepped_610 (by decide) ?_
                            refine r_loc (loc' := [(0, .ref (q 0)), (1, .int a1), (7, .int (0 : Int32))]) [6, 7, 0] rfl ?_
                            exact hJ14 _ _ hf
                          · replace hf := ifn h126 hf
                            by_cases h136 : x4 = (20 : Int32)
                            · replace hf := ifp h136 hf
                              refine r_tin (pc := 65) (tgt := 613) cx (20 : Int32) h136 dX10_stepped_65 (by decide) (by decide) rfl (by decide) ?_
                              refine r_aload_n (pc := 613) cx dX10_stepped_613 6 rfl ?_
                              refine r_aload_n (pc := 614) cx dX10_stepped_614 6 rfl ?_
                              refine r_get (pc := 615) cx cf_X10 0 11 rfl (by decide) rfl wd_1327 dX10_stepped_615 ?_
                              refine r_iload_n (pc := 618) cx dX10_stepped_618 5 rfl ?_
                              replace hf := chk_of hf
                              obtain ⟨h137, hf⟩ := hf
                              refine r_iald (pc := 619) cx 10 rfl h137 dX10_stepped_619 ?_
                              replace hf := nm_of hf
                              obtain ⟨x138, ex138, hf⟩ := hf
                              refine r_nm ex138 ?_
                              refine r_putI (pc := 620) (ws' := [((q 0), ob 9 [.int (M_thrown v), .ref (q 1), .int (M_taped (M_tp v)), .ref (q 2), .ref (q 3), .ref (q 4), .ref (q 5), .ref (q 6), .ref (q 7), .ref (q 8), .ref (q 9), .ref (q 10), .ref (q 11), .ref (q 12), .ref (q 13), .ref (q 14), .int (M_lines (M_rd v)), .int (M_size (M_rd v)), .int (M_at (M_rd v)), .int (M_place (M_rd v)), .int (M_sort (M_rd v)), .int (M_value (M_rd v)), .int (M_fault (M_rd v)), .int (M_faultPlace (M_rd v)), .int (M_lastFault (M_lf v)), .int (M_lastPlace (M_lf v)), .ref (q 15), .ref (q 16), .ref (q 17), .ref (q 18), .int (M_hasImage (M_im v)), .int (M_spanNow (M_rn v)), .ref (q 19), .int x138, .int (M_alonePlace (M_al v)), .int (M_aloneSteps (M_al v)), .int (M_aloneOut (M_al v)), .ref (q 20), .ref (q 21), .ref (q 22), .ref (q 23), .int (M_shotAlarm (M_ex v)), .int (M_drawn (M_ex v))]), ((q 1), aI K 700 (M_tape (M_tp v))), ((q 2), aI K 20 (M_number (M_cd v))), ((q 3), aZ K 5 (M_isTold (M_rd v))), ((q 4), aI K 80 (M_codeSort (M_cd v))), ((q 5), aI K 80 (M_codeA (M_cd v))), ((q 6), aI K 80 (M_codeB (M_cd v))), ((q 7), aI K 80 (M_codeC (M_cd v))), ((q 8), aI K 80 (M_codeName (M_cd v))), ((q 9), aI K 80 (M_codePlace (M_cd v))), ((q 10), aI K 80 (M_codeTo (M_cd v))), ((q 11), aI K 280 (M_labelName (M_cd v))), ((q 12), aI K 280 (M_labelAt (M_cd v))), ((q 13), aI K 64 (M_data (M_cd v))), ((q 14), aZ K 32 (M_hasData (M_rd v))), ((q 15), aI K 314 (M_s (M_rn v))), ((q 16), aI K 314 (M_aside (M_ex v))), ((q 17), aI K 314 (M_further (M_ex v))), ((q 18), aI K 314 (M_image (M_im v))), ((q 19), aI K 3 (M_sizeNow (M_rn v))), ((q 20), aI K 8 (M_aloneRegister (M_al v))), ((q 21), aI K 4 (M_aloneReal (M_al v))), ((q 22), aI K 32 (M_aloneMemory (M_al v))), ((q 23), aI K 999 (M_aloneOutput (M_al v)))]) cx cf_X10 0 33 rfl (by decide) (Nat.le_of_ble_eq_true rfl) rfl pfd_I wd_1349 dX10_stepped_620 rfl ?_
                              refine r_goto (pc := 623) (tgt := 686) cx dX10_stepped_623 (by decide) ?_
                              refine r_loc (loc' := [(0, .ref (q 0)), (1, .int a1), (7, .int (0 : Int32))]) [6, 7, 0] rfl ?_
                              exact hJ14 _ _ hf
                            · replace hf := ifn h136 hf
                              refine r_tout (pc := 65) (tgt := 626) cx dX10_stepped_65 (by
                                have nh25 := toInt_ne h25
                                have mh25 : (7 : Int32).toInt = 7 := by decide
                                rw [mh25] at nh25
                                have nh31 := toInt_ne h31
                                have mh31 : (8 : Int32).toInt = 8 := by decide
                                rw [mh31] at nh31
                                have nh38 := toInt_ne h38
                                have mh38 : (9 : Int32).toInt = 9 := by decide
                                rw [mh38] at nh38
                                have nh45 := toInt_ne h45
                                have mh45 : (10 : Int32).toInt = 10 := by decide
                                rw [mh45] at nh45
                                have nh52 := toInt_ne h52
                                have mh52 : (11 : Int32).toInt = 11 := by decide
                                rw [mh52] at nh52
                                have nh59 := toInt_ne h59
                                have mh59 : (12 : Int32).toInt = 12 := by decide
                                rw [mh59] at nh59
                                have nh67 := toInt_ne h67
                                have mh67 : (13 : Int32).toInt = 13 := by decide
                                rw [mh67] at nh67
                                have nh83 := toInt_ne h83
                                have mh83 : (14 : Int32).toInt = 14 := by decide
                                rw [mh83] at nh83
                                have nh95 := toInt_ne h95
                                have mh95 : (15 : Int32).toInt = 15 := by decide
                                rw [mh95] at nh95
                                have nh101 := toInt_ne h101
                                have mh101 : (16 : Int32).toInt = 16 := by decide
                                rw [mh101] at nh101
                                have nh109 := toInt_ne h109
                                have mh109 : (17 : Int32).toInt = 17 := by decide
                                rw [mh109] at nh109
                                have nh116 := toInt_ne h116
                                have mh116 : (18 : Int32).toInt = 18 := by decide
                                rw [mh116] at nh116
                                have nh126 := toInt_ne h126
                                have mh126 : (19 : Int32).toInt = 19 := by decide
                                rw [mh126] at nh126
                                have nh136 := toInt_ne h136
                                have mh136 : (20 : Int32).toInt = 20 := by decide
                                rw [mh136] at nh136
                                omega) (by decide) ?_
                              refine r_aload_n (pc := 626) cx dX10_stepped_626 6 rfl ?_
                              refine r_iload_n (pc := 627) cx dX10_stepped_627 7 rfl ?_
                              refine r_iload_n (pc := 628) cx dX10_stepped_628 5 rfl ?_
                              refine r_iload_n (pc := 629) cx dX10_stepped_629 4 rfl ?_
                              refine r_aload_n (pc := 630) cx dX10_stepped_630 6 rfl ?_
                              refine r_get (pc := 631) cx cf_X10 0 26 rfl (by decide) rfl wd_1342 dX10_stepped_631 ?_
                              refine r_iload (pc := 634) cx dX10_stepped_634 3 rfl ?_
                              refine r_aload_n (pc := 636) cx dX10_stepped_636 6 rfl ?_
                              refine r_get (pc := 637) cx cf_X10 0 6 rfl (by decide) rfl wd_1322 dX10_stepped_637 ?_
                              refine r_iload_n (pc := 640) cx dX10_stepped_640 5 rfl ?_
                              replace hf := chk_of hf
                              obtain ⟨h139, hf⟩ := hf
                              refine r_iald (pc := 641) cx 5 rfl h139 dX10_stepped_641 ?_
                              refine r_iadd (pc := 642) cx dX10_stepped_642 ?_
                              replace hf := chk_of hf
                              obtain ⟨h140, hf⟩ := hf
                              refine r_iald (pc := 643) cx 15 rfl h140 dX10_stepped_643 ?_
                              refine r_iload (pc := 644) cx dX10_stepped_644 1 rfl ?_
                              refine r_aload_n (pc := 646) cx dX10_stepped_646 6 rfl ?_
                              refine r_get (pc := 647) cx cf_X10 0 26 rfl (by decide) rfl wd_1342 dX10_stepped_647 ?_
                              refine r_iload (pc := 650) cx dX10_stepped_650 2 rfl ?_
                              refine r_aload_n (pc := 652) cx dX10_stepped_652 6 rfl ?_
                              refine r_get (pc := 653) cx cf_X10 0 6 rfl (by decide) rfl wd_1322 dX10_stepped_653 ?_
                              refine r_iload_n (pc := 656) cx dX10_stepped_656 5 rfl ?_
                              replace hf := chk_of hf
                              obtain ⟨h141, hf⟩ := hf
                              refine r_iald (pc := 657) cx 5 rfl h141 dX10_stepped_657 ?_
                              refine r_iconst (pc := 658) cx dX10_stepped_658 ic_4 ?_
                              refine r_irem (pc := 659) cx dX10_stepped_659 (by decide) ?_
                              refine r_iadd (pc := 660) cx dX10_stepped_660 ?_
                              replace hf := nm_of hf
                              obtain ⟨x142, ex142, hf⟩ := hf
                              refine r_nm ex142 ?_
                              replace hf := chk_of hf
                              obtain ⟨h143, hf⟩ := hf
                              refine r_iald (pc := 661) cx 15 rfl h143 dX10_stepped_661 ?_
                              refine r_aload_n (pc := 662) cx dX10_stepped_662 6 rfl ?_
                              refine r_get (pc := 663) cx cf_X10 0 26 rfl (by decide) rfl wd_1342 dX10_stepped_663 ?_
                              refine r_iload (pc := 666) cx dX10_stepped_666 2 rfl ?_
                              refine r_aload_n (pc := 668) cx dX10_stepped_668 6 rfl ?_
                              refine r_get (pc := 669) cx cf_X10 0 7 rfl (by decide) rfl wd_1323 dX10_stepped_669 ?_
                              refine r_iload_n (pc := 672) cx dX10_stepped_672 5 rfl ?_
                              replace hf := chk_of hf
                              obtain ⟨h144, hf⟩ := hf
                              refine r_iald (pc := 673) cx 6 rfl h144 dX10_stepped_673 ?_
                              refine r_iconst (pc := 674) cx dX10_stepped_674 ic_4 ?_
                              refine r_irem (pc := 675) cx dX10_stepped_675 (by decide) ?_
                              refine r_iadd (pc := 676) cx dX10_stepped_676 ?_
                              replace hf := nm_of hf
                              obtain ⟨x145, ex145, hf⟩ := hf
                              refine r_nm ex145 ?_
                              replace hf := chk_of hf
                              obtain ⟨h146, hf⟩ := hf
                              refine r_iald (pc := 677) cx 15 rfl h146 dX10_stepped_677 ?_
                              replace hf := bd_of hf
                              obtain ⟨r147, hc148, hf⟩ := hf
                              refine r_Si (pc := 678) (ws' := [((q 0), ob 9 [.int (M_thrown v), .ref (q 1), .int (M_taped (M_tp v)), .ref (q 2), .ref (q 3), .ref (q 4), .ref (q 5), .ref (q 6), .ref (q 7), .ref (q 8), .ref (q 9), .ref (q 10), .ref (q 11), .ref (q 12), .ref (q 13), .ref (q 14), .int (M_lines (M_rd v)), .int (M_size (M_rd v)), .int (M_at (M_rd v)), .int (M_place (M_rd v)), .int (M_sort (M_rd v)), .int (M_value (M_rd v)), .int (M_fault (M_rd v)), .int (M_faultPlace (M_rd v)), .int (M_lastFault (M_lf v)), .int (M_lastPlace (M_lf v)), .ref (q 15), .ref (q 16), .ref (q 17), .ref (q 18), .int (M_hasImage (M_im v)), .int (M_spanNow (M_rn v)), .ref (q 19), .int x11, .int (M_alonePlace (M_al v)), .int (M_aloneSteps (M_al v)), .int (M_aloneOut (M_al v)), .ref (q 20), .ref (q 21), .ref (q 22), .ref (q 23), .int (M_shotAlarm (M_ex v)), .int (M_drawn (M_ex v))]), ((q 1), aI K 700 (M_tape (M_tp v))), ((q 2), aI K 20 (M_number (M_cd v))), ((q 3), aZ K 5 (M_isTold (M_rd v))), ((q 4), aI K 80 (M_codeSort (M_cd v))), ((q 5), aI K 80 (M_codeA (M_cd v))), ((q 6), aI K 80 (M_codeB (M_cd v))), ((q 7), aI K 80 (M_codeC (M_cd v))), ((q 8), aI K 80 (M_codeName (M_cd v))), ((q 9), aI K 80 (M_codePlace (M_cd v))), ((q 10), aI K 80 (M_codeTo (M_cd v))), ((q 11), aI K 280 (M_labelName (M_cd v))), ((q 12), aI K 280 (M_labelAt (M_cd v))), ((q 13), aI K 64 (M_data (M_cd v))), ((q 14), aZ K 32 (M_hasData (M_rd v))), ((q 15), aI K 314 (M_s (M_rn v))), ((q 16), aI K 314 (M_aside (M_ex v))), ((q 17), aI K 314 (M_further (M_ex v))), ((q 18), aI K 314 (M_image (M_im v))), ((q 19), aI K 3 (M_sizeNow (M_rn v))), ((q 20), aI K 8 (M_aloneRegister (M_al v))), ((q 21), aI K 4 (M_aloneReal (M_al v))), ((q 22), aI K 32 (M_aloneMemory (M_al v))), ((q 23), aI K 999 (M_aloneOutput (M_al v)))]) (wc := []) (nn := 0) cx [.int x4, .int ((M_s (M_rn v)) ((x5 + ((M_codeA (M_cd v)) x2.toNatClampNeg))).toNatClampNeg), .int x10, .int ((M_s (M_rn v)) x142.toNatClampNeg), .int ((M_s (M_rn v)) x145.toNatClampNeg)] [.int x2, .int a1, .ref (q 0)] (m_M_goesBy l D K x4 ((M_s (M_rn v)) ((x5 + ((M_codeA (M_cd v)) x2.toNatClampNeg))).toNatClampNeg) x10 ((M_s (M_rn v)) x142.toNatClampNeg) ((M_s (M_rn v)) x145.toNatClampNeg) hc148) rfl ys_X10_goesBy wd_1660 ⟨rfl, rfl⟩ (by decide) (fr_k (fr_k (fr_k (fr_k (fr_k (fr_k (fr_k (fr_k (fr_k (fr_k (fr_k (fr_k (fr_k (fr_k (fr_k (fr_k (fr_k (fr_k (fr_k (fr_k (fr_k (fr_k (fr_k (fr_k (fr_n))))))))))))))))))))))))) rfl (by decide) rfl (Nat.le_of_ble_eq_true rfl) dX10_stepped_678 ?_
                              replace hf := bd2_of hf
                              obtain ⟨r149, v150, hc151, hf⟩ := hf
                              refine r_Vi (pc := 681) (ws' := [((q 0), ob 9 [.int (M_thrown v150), .ref (q 1), .int (M_taped (M_tp v150)), .ref (q 2), .ref (q 3), .ref (q 4), .ref (q 5), .ref (q 6), .ref (q 7), .ref (q 8), .ref (q 9), .ref (q 10), .ref (q 11), .ref (q 12), .ref (q 13), .ref (q 14), .int (M_lines (M_rd v150)), .int (M_size (M_rd v150)), .int (M_at (M_rd v150)), .int (M_place (M_rd v150)), .int (M_sort (M_rd v150)), .int (M_value (M_rd v150)), .int (M_fault (M_rd v150)), .int (M_faultPlace (M_rd v150)), .int (M_lastFault (M_lf v150)), .int (M_lastPlace (M_lf v150)), .ref (q 15), .ref (q 16), .ref (q 17), .ref (q 18), .int (M_hasImage (M_im v150)), .int (M_spanNow (M_rn v150)), .ref (q 19), .int (M_placeThen (M_rn v150)), .int (M_alonePlace (M_al v150)), .int (M_aloneSteps (M_al v150)), .int (M_aloneOut (M_al v150)), .ref (q 20), .ref (q 21), .ref (q 22), .ref (q 23), .int (M_shotAlarm (M_ex v150)), .int (M_drawn (M_ex v150))]), ((q 1), aI K 700 (M_tape (M_tp v150))), ((q 2), aI K 20 (M_number (M_cd v150))), ((q 3), aZ K 5 (M_isTold (M_rd v150))), ((q 4), aI K 80 (M_codeSort (M_cd v150))), ((q 5), aI K 80 (M_codeA (M_cd v150))), ((q 6), aI K 80 (M_codeB (M_cd v150))), ((q 7), aI K 80 (M_codeC (M_cd v150))), ((q 8), aI K 80 (M_codeName (M_cd v150))), ((q 9), aI K 80 (M_codePlace (M_cd v150))), ((q 10), aI K 80 (M_codeTo (M_cd v150))), ((q 11), aI K 280 (M_labelName (M_cd v150))), ((q 12), aI K 280 (M_labelAt (M_cd v150))), ((q 13), aI K 64 (M_data (M_cd v150))), ((q 14), aZ K 32 (M_hasData (M_rd v150))), ((q 15), aI K 314 (M_s (M_rn v150))), ((q 16), aI K 314 (M_aside (M_ex v150))), ((q 17), aI K 314 (M_further (M_ex v150))), ((q 18), aI K 314 (M_image (M_im v150))), ((q 19), aI K 3 (M_sizeNow (M_rn v150))), ((q 20), aI K 8 (M_aloneRegister (M_al v150))), ((q 21), aI K 4 (M_aloneReal (M_al v150))), ((q 22), aI K 32 (M_aloneMemory (M_al v150))), ((q 23), aI K 999 (M_aloneOutput (M_al v150)))]) (wc := [((q 0), ob 9 [.int (M_thrown v), .ref (q 1), .int (M_taped (M_tp v)), .ref (q 2), .ref (q 3), .ref (q 4), .ref (q 5), .ref (q 6), .ref (q 7), .ref (q 8), .ref (q 9), .ref (q 10), .ref (q 11), .ref (q 12), .ref (q 13), .ref (q 14), .int (M_lines (M_rd v)), .int (M_size (M_rd v)), .int (M_at (M_rd v)), .int (M_place (M_rd v)), .int (M_sort (M_rd v)), .int (M_value (M_rd v)), .int (M_fault (M_rd v)), .int (M_faultPlace (M_rd v)), .int (M_lastFault (M_lf v)), .int (M_lastPlace (M_lf v)), .ref (q 15), .ref (q 16), .ref (q 17), .ref (q 18), .int (M_hasImage (M_im v)), .int (M_spanNow (M_rn v)), .ref (q 19), .int x11, .int (M_alonePlace (M_al v)), .int (M_aloneSteps (M_al v)), .int (M_aloneOut (M_al v)), .ref (q 20), .ref (q 21), .ref (q 22), .ref (q 23), .int (M_shotAlarm (M_ex v)), .int (M_drawn (M_ex v))]), ((q 1), aI K 700 (M_tape (M_tp v))), ((q 2), aI K 20 (M_number (M_cd v))), ((q 3), aZ K 5 (M_isTold (M_rd v))), ((q 4), aI K 80 (M_codeSort (M_cd v))), ((q 5), aI K 80 (M_codeA (M_cd v))), ((q 6), aI K 80 (M_codeB (M_cd v))), ((q 7), aI K 80 (M_codeC (M_cd v))), ((q 8), aI K 80 (M_codeName (M_cd v))), ((q 9), aI K 80 (M_codePlace (M_cd v))), ((q 10), aI K 80 (M_codeTo (M_cd v))), ((q 11), aI K 280 (M_labelName (M_cd v))), ((q 12), aI K 280 (M_labelAt (M_cd v))), ((q 13), aI K 64 (M_data (M_cd v))), ((q 14), aZ K 32 (M_hasData (M_rd v))), ((q 15), aI K 314 (M_s (M_rn v))), ((q 16), aI K 314 (M_aside (M_ex v))), ((q 17), aI K 314 (M_further (M_ex v))), ((q 18), aI K 314 (M_image (M_im v))), ((q 19), aI K 3 (M_sizeNow (M_rn v))), ((q 20), aI K 8 (M_aloneRegister (M_al v))), ((q 21), aI K 4 (M_aloneReal (M_al v))), ((q 22), aI K 32 (M_aloneMemory (M_al v))), ((q 23), aI K 999 (M_aloneOutput (M_al v)))]) (nn := 24) cx [.int a1, .int x2, .int r147] [] (m_M_branches l D K q ((M_tp v), (M_rd v), (M_lf v), (M_cd v), ((M_s (M_rn v)), (M_spanNow (M_rn v)), (M_sizeNow (M_rn v)), x11), (M_ex v), (M_im v), (M_al v), (M_thrown v)) a1 x2 r147 hc151) (by (try simp only [cl_M, M_tape_mk, M_taped_mk, M_tp_mk, M_lines_mk, M_size_mk, M_at_mk, M_place_mk, M_sort_mk, M_value_mk, M_fault_mk, M_faultPlace_mk, M_isTold_mk, M_hasData_mk, M_rd_mk, M_lastFault_mk, M_lastPlace_mk, M_lf_mk, M_number_mk, M_codeSort_mk, M_codeA_mk, M_codeB_mk, M_codeC_mk, M_codeName_mk, M_codePlace_mk, M_codeTo_mk, M_labelName_mk, M_labelAt_mk, M_data_mk, M_cd_mk, M_s_mk, M_spanNow_mk, M_sizeNow_mk, M_placeThen_mk, M_rn_mk, M_aside_mk, M_further_mk, M_shotAlarm_mk, M_drawn_mk, M_ex_mk, M_image_mk, M_hasImage_mk, M_im_mk, M_alonePlace_mk, M_aloneSteps_mk, M_aloneOut_mk, M_aloneRegister_mk, M_aloneReal_mk, M_aloneMemory_mk, M_aloneOutput_mk, M_al_mk, M_thrown_mk, List.cons_append, List.nil_append, List.append_nil]) <;> rfl) yv_X10_branches wd_1663 ⟨rfl, rfl⟩ (by decide) (fr_s (j := 0) rfl rfl rfl (fr_s (j := 1) rfl rfl rfl (fr_s (j := 2) rfl rfl rfl (fr_s (j := 3) rfl rfl rfl (fr_s (j := 4) rfl rfl rfl (fr_s (j := 5) rfl rfl rfl (fr_s (j := 6) rfl rfl rfl (fr_s (j := 7) rfl rfl rfl (fr_s (j := 8) rfl rfl rfl (fr_s (j := 9) rfl rfl rfl (fr_s (j := 10) rfl rfl rfl (fr_s (j := 11) rfl rfl rfl (fr_s (j := 12) rfl rfl rfl (fr_s (j := 13) rfl rfl rfl (fr_s (j := 14) rfl rfl rfl (fr_s (j := 15) rfl rfl rfl (fr_s (j := 16) rfl rfl rfl (fr_s (j := 17) rfl rfl rfl (fr_s (j := 18) rfl rfl rfl (fr_s (j := 19) rfl rfl rfl (fr_s (j := 20) rfl rfl rfl (fr_s (j := 21) rfl rfl rfl (fr_s (j := 22) rfl rfl rfl (fr_s (j := 23) rfl rfl rfl (fr_n))))))))))))))))))))))))) rfl (by decide) 0 rfl rfl rfl (Nat.le_of_ble_eq_true rfl) dX10_stepped_681 ?_
                              refine r_istore (pc := 684) (loc' := [(7, .int r149), (6, .int x10), (5, .int x6), (4, .int x5), (3, .int x4), (2, .int x2), (0, .ref (q 0)), (1, .int a1)]) cx dX10_stepped_684 (by decide) rfl ?_
                              refine r_loc (loc' := [(0, .ref (q 0)), (1, .int a1), (7, .int r149)]) [6, 7, 0] rfl ?_
                              exact hJ14 _ _ hf
theorem yv_X10_stepped : YV yX10_stepped cX10_stepped 8 (some .int) 1 := ⟨⟨by decide +kernel, by decide +kernel, by decide +kernel⟩, wd_1606, wd_102, wd_1605, wd_60⟩
