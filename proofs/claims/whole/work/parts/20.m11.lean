abbrev rm_M_wrongHere : Room := { frames := 0, cells := 0, slots := 0, locals := 0 }
set_option maxRecDepth 100000 in
set_option maxHeartbeats 4000000 in
theorem m_M_wrongHere (l : Launch) (D : va_G) (K : Nat → ClassId) (q : Nat → Nat) (v : T_M) {r_ : Int32} (hf : f_M_wrongHere v = some r_) : MI l yX10_wrongHere cX10_wrongHere 3 (some .int) rm_M_wrongHere D K [.ref (q 0)] (cl_M K q v) r_ (cl_M K q v) := by
  refine MI_of (loc0 := [(0, .ref (q 0))]) (by decide +kernel) rfl (Nat.le_of_ble_eq_true rfl) ?_
  intro p e s m args below meth c A cx
  unfold f_M_wrongHere at hf
  refine r_ws (ws' := [((q 0), ob 9 [.int (M_thrown v), .ref (q 1), .int (M_taped (M_tp v)), .ref (q 2), .ref (q 3), .ref (q 4), .ref (q 5), .ref (q 6), .ref (q 7), .ref (q 8), .ref (q 9), .ref (q 10), .ref (q 11), .ref (q 12), .ref (q 13), .ref (q 14), .int (M_lines (M_rd v)), .int (M_size (M_rd v)), .int (M_at (M_rd v)), .int (M_place (M_rd v)), .int (M_sort (M_rd v)), .int (M_value (M_rd v)), .int (M_fault (M_rd v)), .int (M_faultPlace (M_rd v)), .int (M_lastFault (M_lf v)), .int (M_lastPlace (M_lf v)), .ref (q 15), .ref (q 16), .ref (q 17), .ref (q 18), .int (M_hasImage (M_im v)), .int (M_spanNow (M_rn v)), .ref (q 19), .int (M_placeThen (M_rn v)), .int (M_alonePlace (M_al v)), .int (M_aloneSteps (M_al v)), .int (M_aloneOut (M_al v)), .ref (q 20), .ref (q 21), .ref (q 22), .ref (q 23), .int (M_shotAlarm (M_ex v)), .int (M_drawn (M_ex v))]), ((q 1), aI K 700 (M_tape (M_tp v))), ((q 2), aI K 20 (M_number (M_cd v))), ((q 3), aZ K 5 (M_isTold (M_rd v))), ((q 4), aI K 80 (M_codeSort (M_cd v))), ((q 5), aI K 80 (M_codeA (M_cd v))), ((q 6), aI K 80 (M_codeB (M_cd v))), ((q 7), aI K 80 (M_codeC (M_cd v))), ((q 8), aI K 80 (M_codeName (M_cd v))), ((q 9), aI K 80 (M_codePlace (M_cd v))), ((q 10), aI K 80 (M_codeTo (M_cd v))), ((q 11), aI K 280 (M_labelName (M_cd v))), ((q 12), aI K 280 (M_labelAt (M_cd v))), ((q 13), aI K 64 (M_data (M_cd v))), ((q 14), aZ K 32 (M_hasData (M_rd v))), ((q 15), aI K 314 (M_s (M_rn v))), ((q 16), aI K 314 (M_aside (M_ex v))), ((q 17), aI K 314 (M_further (M_ex v))), ((q 18), aI K 314 (M_image (M_im v))), ((q 19), aI K 3 (M_sizeNow (M_rn v))), ((q 20), aI K 8 (M_aloneRegister (M_al v))), ((q 21), aI K 4 (M_aloneReal (M_al v))), ((q 22), aI K 32 (M_aloneMemory (M_al v))), ((q 23), aI K 999 (M_aloneOutput (M_al v)))]) rfl ?_
  refine r_aload_n (pc := 0) cx dX10_wrongHere_0 0 rfl ?_
  refine r_get (pc := 1) cx cf_X10 0 26 rfl (by decide) rfl wd_1342 dX10_wrongHere_1 ?_
  refine r_iconst (pc := 4) cx dX10_wrongHere_4 ic_0 ?_
  refine r_iald (pc := 5) cx 15 rfl (by decide) dX10_wrongHere_5 ?_
  refine r_aload_n (pc := 6) cx dX10_wrongHere_6 0 rfl ?_
  refine r_get (pc := 7) cx cf_X10 0 26 rfl (by decide) rfl wd_1342 dX10_wrongHere_7 ?_
  refine r_iconst (pc := 10) cx dX10_wrongHere_10 ic_1 ?_
  refine r_iald (pc := 11) cx 15 rfl (by decide) dX10_wrongHere_11 ?_
  replace hf := nm_of hf
  obtain ⟨J2, eJ2, hf⟩ := hf
  have hJ2 : ∀ (y1 : Int32), J2 y1 = some r_ → WW p l e rm_M_wrongHere s m args below meth c D A 3 0 0 (MQ below (QI D K A r_ (cl_M K q v)) args s 0 0 A) ([((q 0), ob 9 [.int (M_thrown v), .ref (q 1), .int (M_taped (M_tp v)), .ref (q 2), .ref (q 3), .ref (q 4), .ref (q 5), .ref (q 6), .ref (q 7), .ref (q 8), .ref (q 9), .ref (q 10), .ref (q 11), .ref (q 12), .ref (q 13), .ref (q 14), .int (M_lines (M_rd v)), .int (M_size (M_rd v)), .int (M_at (M_rd v)), .int (M_place (M_rd v)), .int (M_sort (M_rd v)), .int (M_value (M_rd v)), .int (M_fault (M_rd v)), .int (M_faultPlace (M_rd v)), .int (M_lastFault (M_lf v)), .int (M_lastPlace (M_lf v)), .ref (q 15), .ref (q 16), .ref (q 17), .ref (q 18), .int (M_hasImage (M_im v)), .int (M_spanNow (M_rn v)), .ref (q 19), .int (M_placeThen (M_rn v)), .int (M_alonePlace (M_al v)), .int (M_aloneSteps (M_al v)), .int (M_aloneOut (M_al v)), .ref (q 20), .ref (q 21), .ref (q 22), .ref (q 23), .int (M_shotAlarm (M_ex v)), .int (M_drawn (M_ex v))]), ((q 1), aI K 700 (M_tape (M_tp v))), ((q 2), aI K 20 (M_number (M_cd v))), ((q 3), aZ K 5 (M_isTold (M_rd v))), ((q 4), aI K 80 (M_codeSort (M_cd v))), ((q 5), aI K 80 (M_codeA (M_cd v))), ((q 6), aI K 80 (M_codeB (M_cd v))), ((q 7), aI K 80 (M_codeC (M_cd v))), ((q 8), aI K 80 (M_codeName (M_cd v))), ((q 9), aI K 80 (M_codePlace (M_cd v))), ((q 10), aI K 80 (M_codeTo (M_cd v))), ((q 11), aI K 280 (M_labelName (M_cd v))), ((q 12), aI K 280 (M_labelAt (M_cd v))), ((q 13), aI K 64 (M_data (M_cd v))), ((q 14), aZ K 32 (M_hasData (M_rd v))), ((q 15), aI K 314 (M_s (M_rn v))), ((q 16), aI K 314 (M_aside (M_ex v))), ((q 17), aI K 314 (M_further (M_ex v))), ((q 18), aI K 314 (M_image (M_im v))), ((q 19), aI K 3 (M_sizeNow (M_rn v))), ((q 20), aI K 8 (M_aloneRegister (M_al v))), ((q 21), aI K 4 (M_aloneReal (M_al v))), ((q 22), aI K 32 (M_aloneMemory (M_al v))), ((q 23), aI K 999 (M_aloneOutput (M_al v)))]) ([(0, .ref (q 0))]) ([.int y1]) 20 := by
    clear hf
    intro y1 hf
    rw [eJ2] at hf
    refine r_istore_n (pc := 20) (loc' := [(1, .int y1), (0, .ref (q 0))]) cx dX10_wrongHere_20 rfl (by decide) rfl ?_
    refine r_iconst (pc := 21) cx dX10_wrongHere_21 ic_0 ?_
    refine r_istore_n (pc := 22) (loc' := [(2, .int (0 : Int32)), (1, .int y1), (0, .ref (q 0))]) cx dX10_wrongHere_22 rfl (by decide) rfl ?_
    have hL23 : ∀ (k23_65 : Int32 → Option (Int32)), (∀ (x5 : Int32), k23_65 x5 = some r_ → WW p l e rm_M_wrongHere s m args below meth c D A 3 0 0 (MQ below (QI D K A r_ (cl_M K q v)) args s 0 0 A) ([((q 0), ob 9 [.int (M_thrown v), .ref (q 1), .int (M_taped (M_tp v)), .ref (q 2), .ref (q 3), .ref (q 4), .ref (q 5), .ref (q 6), .ref (q 7), .ref (q 8), .ref (q 9), .ref (q 10), .ref (q 11), .ref (q 12), .ref (q 13), .ref (q 14), .int (M_lines (M_rd v)), .int (M_size (M_rd v)), .int (M_at (M_rd v)), .int (M_place (M_rd v)), .int (M_sort (M_rd v)), .int (M_value (M_rd v)), .int (M_fault (M_rd v)), .int (M_faultPlace (M_rd v)), .int (M_lastFault (M_lf v)), .int (M_lastPlace (M_lf v)), .ref (q 15), .ref (q 16), .ref (q 17), .ref (q 18), .int (M_hasImage (M_im v)), .int (M_spanNow (M_rn v)), .ref (q 19), .int (M_placeThen (M_rn v)), .int (M_alonePlace (M_al v)), .int (M_aloneSteps (M_al v)), .int (M_aloneOut (M_al v)), .ref (q 20), .ref (q 21), .ref (q 22), .ref (q 23), .int (M_shotAlarm (M_ex v)), .int (M_drawn (M_ex v))]), ((q 1), aI K 700 (M_tape (M_tp v))), ((q 2), aI K 20 (M_number (M_cd v))), ((q 3), aZ K 5 (M_isTold (M_rd v))), ((q 4), aI K 80 (M_codeSort (M_cd v))), ((q 5), aI K 80 (M_codeA (M_cd v))), ((q 6), aI K 80 (M_codeB (M_cd v))), ((q 7), aI K 80 (M_codeC (M_cd v))), ((q 8), aI K 80 (M_codeName (M_cd v))), ((q 9), aI K 80 (M_codePlace (M_cd v))), ((q 10), aI K 80 (M_codeTo (M_cd v))), ((q 11), aI K 280 (M_labelName (M_cd v))), ((q 12), aI K 280 (M_labelAt (M_cd v))), ((q 13), aI K 64 (M_data (M_cd v))), ((q 14), aZ K 32 (M_hasData (M_rd v))), ((q 15), aI K 314 (M_s (M_rn v))), ((q 16), aI K 314 (M_aside (M_ex v))), ((q 17), aI K 314 (M_further (M_ex v))), ((q 18), aI K 314 (M_image (M_im v))), ((q 19), aI K 3 (M_sizeNow (M_rn v))), ((q 20), aI K 8 (M_aloneRegister (M_al v))), ((q 21), aI K 4 (M_aloneReal (M_al v))), ((q 22), aI K 32 (M_aloneMemory (M_al v))), ((q 23), aI K 999 (M_aloneOutput (M_al v)))]) ([(0, .ref (q 0)), (1, .int x5)]) ([]) 65) → ∀ (n23 : Nat) (x3 : Int32) (x4 : Int32), f_M_wrongHere_L23 v k23_65 n23 x3 x4 = some r_ → WW p l e rm_M_wrongHere s m args below meth c D A 3 0 0 (MQ below (QI D K A r_ (cl_M K q v)) args s 0 0 A) ([((q 0), ob 9 [.int (M_thrown v), .ref (q 1), .int (M_taped (M_tp v)), .ref (q 2), .ref (q 3), .ref (q 4), .ref (q 5), .ref (q 6), .ref (q 7), .ref (q 8), .ref (q 9), .ref (q 10), .ref (q 11), .ref (q 12), .ref (q 13), .ref (q 14), .int (M_lines (M_rd v)), .int (M_size (M_rd v)), .int (M_at (M_rd v)), .int (M_place (M_rd v)), .int (M_sort (M_rd v)), .int (M_value (M_rd v)), .int (M_fault (M_rd v)), .int (M_faultPlace (M_rd v)), .int (M_lastFault (M_lf v)), .int (M_lastPlace (M_lf v)), .ref (q 15), .ref (q 16), .ref (q 17), .ref (q 18), .int (M_hasImage (M_im v)), .int (M_spanNow (M_rn v)), .ref (q 19), .int (M_placeThen (M_rn v)), .int (M_alonePlace (M_al v)), .int (M_aloneSteps (M_al v)), .int (M_aloneOut (M_al v)), .ref (q 20), .ref (q 21), .ref (q 22), .ref (q 23), .int (M_shotAlarm (M_ex v)), .int (M_drawn (M_ex v))]), ((q 1), aI K 700 (M_tape (M_tp v))), ((q 2), aI K 20 (M_number (M_cd v))), ((q 3), aZ K 5 (M_isTold (M_rd v))), ((q 4), aI K 80 (M_codeSort (M_cd v))), ((q 5), aI K 80 (M_codeA (M_cd v))), ((q 6), aI K 80 (M_codeB (M_cd v))), ((q 7), aI K 80 (M_codeC (M_cd v))), ((q 8), aI K 80 (M_codeName (M_cd v))), ((q 9), aI K 80 (M_codePlace (M_cd v))), ((q 10), aI K 80 (M_codeTo (M_cd v))), ((q 11), aI K 280 (M_labelName (M_cd v))), ((q 12), aI K 280 (M_labelAt (M_cd v))), ((q 13), aI K 64 (M_data (M_cd v))), ((q 14), aZ K 32 (M_hasData (M_rd v))), ((q 15), aI K 314 (M_s (M_rn v))), ((q 16), aI K 314 (M_aside (M_ex v))), ((q 17), aI K 314 (M_further (M_ex v))), ((q 18), aI K 314 (M_image (M_im v))), ((q 19), aI K 3 (M_sizeNow (M_rn v))), ((q 20), aI K 8 (M_aloneRegister (M_al v))), ((q 21), aI K 4 (M_aloneReal (M_al v))), ((q 22), aI K 32 (M_aloneMemory (M_al v))), ((q 23), aI K 999 (M_aloneOutput (M_al v)))]) ([(0, .ref (q 0)), (1, .int x3), (2, .int x4)]) ([]) 23 := by
      clear hf
      intro k23_65 hk23_65 n23
      induction n23 with
      | zero => intro x3 x4 hf; exact (nomatch (show (none : Option (Int32)) = some _ from hf))
      | succ n23 ih23 =>
        intro x3 x4 hf
        rw [f_M_wrongHere_L23] at hf
        refine r_iload_n (pc := 23) cx dX10_wrongHere_23 2 rfl ?_
        refine r_bipush (pc := 24) cx dX10_wrongHere_24 bp_8 ?_
        refine r_icmp_ge (pc := 26) (tgt := 65) cx dX10_wrongHere_26 (by decide) (fun h6 => ?_) (fun h6 => ?_)
        · replace hf := ifp h6 hf
          refine r_loc (loc' := [(0, .ref (q 0)), (1, .int x3)]) [0, 1] rfl ?_
          exact hk23_65 _ hf
        · replace hf := ifn h6 hf
          refine r_iload_n (pc := 29) cx dX10_wrongHere_29 1 rfl ?_
          refine r_if_eq (pc := 30) (tgt := 57) cx dX10_wrongHere_30 (by decide) (fun h7 => ?_) (fun h7 => ?_)
          · replace hf := ifp h7 hf
            refine r_iconst (pc := 57) cx dX10_wrongHere_57 ic_0 ?_
            refine r_istore_n (pc := 58) (loc' := [(1, .int (0 : Int32)), (0, .ref (q 0)), (2, .int x4)]) cx dX10_wrongHere_58 rfl (by decide) rfl ?_
            replace hf := nm_of hf
            obtain ⟨x8, ex8, hf⟩ := hf
            refine r_iinc (pc := 59) (loc' := [(2, .int x8), (1, .int (0 : Int32)), (0, .ref (q 0))]) (v := x8) cx dX10_wrongHere_59 2 rfl ((congrArg (fun z => x4 + z) ic_1).trans ex8.symm) (by decide) rfl ?_
            refine r_goto (pc := 62) (tgt := 23) cx dX10_wrongHere_62 (by decide) ?_
            refine r_loc (loc' := [(0, .ref (q 0)), (1, .int (0 : Int32)), (2, .int x8)]) [2, 1, 0] rfl ?_
            exact ih23 _ _ hf
          · replace hf := ifn h7 hf
            refine r_aload_n (pc := 33) cx dX10_wrongHere_33 0 rfl ?_
            refine r_get (pc := 34) cx cf_X10 0 26 rfl (by decide) rfl wd_1342 dX10_wrongHere_34 ?_
            refine r_iconst (pc := 37) cx dX10_wrongHere_37 ic_4 ?_
            refine r_iload_n (pc := 38) cx dX10_wrongHere_38 2 rfl ?_
            refine r_iadd (pc := 39) cx dX10_wrongHere_39 ?_
            replace hf := chk_of hf
            obtain ⟨h9, hf⟩ := hf
            refine r_iald (pc := 40) cx 15 rfl h9 dX10_wrongHere_40 ?_
            refine r_aload_n (pc := 41) cx dX10_wrongHere_41 0 rfl ?_
            refine r_get (pc := 42) cx cf_X10 0 26 rfl (by decide) rfl wd_1342 dX10_wrongHere_42 ?_
            refine r_bipush (pc := 45) cx dX10_wrongHere_45 bp_12 ?_
            refine r_iload_n (pc := 47) cx dX10_wrongHere_47 2 rfl ?_
            refine r_iadd (pc := 48) cx dX10_wrongHere_48 ?_
            replace hf := chk_of hf
            obtain ⟨h10, hf⟩ := hf
            refine r_iald (pc := 49) cx 15 rfl h10 dX10_wrongHere_49 ?_
            refine r_icmp_ne (pc := 50) (tgt := 57) cx dX10_wrongHere_50 (by decide) (fun h11 => ?_) (fun h11 => ?_)
            · replace hf := ifn h11 hf
              refine r_iconst (pc := 57) cx dX10_wrongHere_57 ic_0 ?_
              refine r_istore_n (pc := 58) (loc' := [(1, .int (0 : Int32)), (0, .ref (q 0)), (2, .int x4)]) cx dX10_wrongHere_58 rfl (by decide) rfl ?_
              replace hf := nm_of hf
              obtain ⟨x12, ex12, hf⟩ := hf
              refine r_iinc (pc := 59) (loc' := [(2, .int x12), (1, .int (0 : Int32)), (0, .ref (q 0))]) (v := x12) cx dX10_wrongHere_59 2 rfl ((congrArg (fun z => x4 + z) ic_1).trans ex12.symm) (by decide) rfl ?_
              refine r_goto (pc := 62) (tgt := 23) cx dX10_wrongHere_62 (by decide) ?_
              refine r_loc (loc' := [(0, .ref (q 0)), (1, .int (0 : Int32)), (2, .int x12)]) [2, 1, 0] rfl ?_
              exact ih23 _ _ hf
            · replace hf := ifp h11 hf
              refine r_iconst (pc := 53) cx dX10_wrongHere_53 ic_1 ?_
              refine r_goto (pc := 54) (tgt := 58) cx dX10_wrongHere_54 (by decide) ?_
              refine r_istore_n (pc := 58) (loc' := [(1, .int (1 : Int32)), (0, .ref (q 0)), (2, .int x4)]) cx dX10_wrongHere_58 rfl (by decide) rfl ?_
              replace hf := nm_of hf
              obtain ⟨x13, ex13, hf⟩ := hf
              refine r_iinc (pc := 59) (loc' := [(2, .int x13), (1, .int (1 : Int32)), (0, .ref (q 0))]) (v := x13) cx dX10_wrongHere_59 2 rfl ((congrArg (fun z => x4 + z) ic_1).trans ex13.symm) (by decide) rfl ?_
              refine r_goto (pc := 62) (tgt := 23) cx dX10_wrongHere_62 (by decide) ?_
              refine r_loc (loc' := [(0, .ref (q 0)), (1, .int (1 : Int32)), (2, .int x13)]) [2, 1, 0] rfl ?_
              exact ih23 _ _ hf
    refine r_loc (loc' := [(0, .ref (q 0)), (1, .int y1), (2, .int (0 : Int32))]) [2, 1, 0] rfl ?_
    refine hL23 _ (fun x5 hf => ?_) _ _ _ hf
    refine r_iconst (pc := 65) cx dX10_wrongHere_65 ic_0 ?_
    refine r_istore_n (pc := 66) (loc' := [(2, .int (0 : Int32)), (0, .ref (q 0)), (1, .int x5)]) cx dX10_wrongHere_66 rfl (by decide) rfl ?_
    have hL67 : ∀ (k67_109 : Int32 → Option (Int32)), (∀ (x16 : Int32), k67_109 x16 = some r_ → WW p l e rm_M_wrongHere s m args below meth c D A 3 0 0 (MQ below (QI D K A r_ (cl_M K q v)) args s 0 0 A) ([((q 0), ob 9 [.int (M_thrown v), .ref (q 1), .int (M_taped (M_tp v)), .ref (q 2), .ref (q 3), .ref (q 4), .ref (q 5), .ref (q 6), .ref (q 7), .ref (q 8), .ref (q 9), .ref (q 10), .ref (q 11), .ref (q 12), .ref (q 13), .ref (q 14), .int (M_lines (M_rd v)), .int (M_size (M_rd v)), .int (M_at (M_rd v)), .int (M_place (M_rd v)), .int (M_sort (M_rd v)), .int (M_value (M_rd v)), .int (M_fault (M_rd v)), .int (M_faultPlace (M_rd v)), .int (M_lastFault (M_lf v)), .int (M_lastPlace (M_lf v)), .ref (q 15), .ref (q 16), .ref (q 17), .ref (q 18), .int (M_hasImage (M_im v)), .int (M_spanNow (M_rn v)), .ref (q 19), .int (M_placeThen (M_rn v)), .int (M_alonePlace (M_al v)), .int (M_aloneSteps (M_al v)), .int (M_aloneOut (M_al v)), .ref (q 20), .ref (q 21), .ref (q 22), .ref (q 23), .int (M_shotAlarm (M_ex v)), .int (M_drawn (M_ex v))]), ((q 1), aI K 700 (M_tape (M_tp v))), ((q 2), aI K 20 (M_number (M_cd v))), ((q 3), aZ K 5 (M_isTold (M_rd v))), ((q 4), aI K 80 (M_codeSort (M_cd v))), ((q 5), aI K 80 (M_codeA (M_cd v))), ((q 6), aI K 80 (M_codeB (M_cd v))), ((q 7), aI K 80 (M_codeC (M_cd v))), ((q 8), aI K 80 (M_codeName (M_cd v))), ((q 9), aI K 80 (M_codePlace (M_cd v))), ((q 10), aI K 80 (M_codeTo (M_cd v))), ((q 11), aI K 280 (M_labelName (M_cd v))), ((q 12), aI K 280 (M_labelAt (M_cd v))), ((q 13), aI K 64 (M_data (M_cd v))), ((q 14), aZ K 32 (M_hasData (M_rd v))), ((q 15), aI K 314 (M_s (M_rn v))), ((q 16), aI K 314 (M_aside (M_ex v))), ((q 17), aI K 314 (M_further (M_ex v))), ((q 18), aI K 314 (M_image (M_im v))), ((q 19), aI K 3 (M_sizeNow (M_rn v))), ((q 20), aI K 8 (M_aloneRegister (M_al v))), ((q 21), aI K 4 (M_aloneReal (M_al v))), ((q 22), aI K 32 (M_aloneMemory (M_al v))), ((q 23), aI K 999 (M_aloneOutput (M_al v)))]) ([(0, .ref (q 0)), (1, .int x16)]) ([]) 109) → ∀ (n67 : Nat) (x14 : Int32) (x15 : Int32), f_M_wrongHere_L67 v k67_109 n67 x14 x15 = some r_ → WW p l e rm_M_wrongHere s m args below meth c D A 3 0 0 (MQ below (QI D K A r_ (cl_M K q v)) args s 0 0 A) ([((q 0), ob 9 [.int (M_thrown v), .ref (q 1), .int (M_taped (M_tp v)), .ref (q 2), .ref (q 3), .ref (q 4), .ref (q 5), .ref (q 6), .ref (q 7), .ref (q 8), .ref (q 9), .ref (q 10), .ref (q 11), .ref (q 12), .ref (q 13), .ref (q 14), .int (M_lines (M_rd v)), .int (M_size (M_rd v)), .int (M_at (M_rd v)), .int (M_place (M_rd v)), .int (M_sort (M_rd v)), .int (M_value (M_rd v)), .int (M_fault (M_rd v)), .int (M_faultPlace (M_rd v)), .int (M_lastFault (M_lf v)), .int (M_lastPlace (M_lf v)), .ref (q 15), .ref (q 16), .ref (q 17), .ref (q 18), .int (M_hasImage (M_im v)), .int (M_spanNow (M_rn v)), .ref (q 19), .int (M_placeThen (M_rn v)), .int (M_alonePlace (M_al v)), .int (M_aloneSteps (M_al v)), .int (M_aloneOut (M_al v)), .ref (q 20), .ref (q 21), .ref (q 22), .ref (q 23), .int (M_shotAlarm (M_ex v)), .int (M_drawn (M_ex v))]), ((q 1), aI K 700 (M_tape (M_tp v))), ((q 2), aI K 20 (M_number (M_cd v))), ((q 3), aZ K 5 (M_isTold (M_rd v))), ((q 4), aI K 80 (M_codeSort (M_cd v))), ((q 5), aI K 80 (M_codeA (M_cd v))), ((q 6), aI K 80 (M_codeB (M_cd v))), ((q 7), aI K 80 (M_codeC (M_cd v))), ((q 8), aI K 80 (M_codeName (M_cd v))), ((q 9), aI K 80 (M_codePlace (M_cd v))), ((q 10), aI K 80 (M_codeTo (M_cd v))), ((q 11), aI K 280 (M_labelName (M_cd v))), ((q 12), aI K 280 (M_labelAt (M_cd v))), ((q 13), aI K 64 (M_data (M_cd v))), ((q 14), aZ K 32 (M_hasData (M_rd v))), ((q 15), aI K 314 (M_s (M_rn v))), ((q 16), aI K 314 (M_aside (M_ex v))), ((q 17), aI K 314 (M_further (M_ex v))), ((q 18), aI K 314 (M_image (M_im v))), ((q 19), aI K 3 (M_sizeNow (M_rn v))), ((q 20), aI K 8 (M_aloneRegister (M_al v))), ((q 21), aI K 4 (M_aloneReal (M_al v))), ((q 22), aI K 32 (M_aloneMemory (M_al v))), ((q 23), aI K 999 (M_aloneOutput (M_al v)))]) ([(0, .ref (q 0)), (1, .int x14), (2, .int x15)]) ([]) 67 := by
      clear hf
      intro k67_109 hk67_109 n67
      induction n67 with
      | zero => intro x14 x15 hf; exact (nomatch (show (none : Option (Int32)) = some _ from hf))
      | succ n67 ih67 =>
        intro x14 x15 hf
        rw [f_M_wrongHere_L67] at hf
        refine r_iload_n (pc := 67) cx dX10_wrongHere_67 2 rfl ?_
        refine r_iconst (pc := 68) cx dX10_wrongHere_68 ic_4 ?_
        refine r_icmp_ge (pc := 69) (tgt := 109) cx dX10_wrongHere_69 (by decide) (fun h17 => ?_) (fun h17 => ?_)
        · replace hf := ifp h17 hf
          refine r_loc (loc' := [(0, .ref (q 0)), (1, .int x14)]) [0, 1] rfl ?_
          exact hk67_109 _ hf
        · replace hf := ifn h17 hf
          refine r_iload_n (pc := 72) cx dX10_wrongHere_72 1 rfl ?_
          refine r_if_eq (pc := 73) (tgt := 101) cx dX10_wrongHere_73 (by decide) (fun h18 => ?_) (fun h18 => ?_)
          · replace hf := ifp h18 hf
            refine r_iconst (pc := 101) cx dX10_wrongHere_101 ic_0 ?_
            refine r_istore_n (pc := 102) (loc' := [(1, .int (0 : Int32)), (0, .ref (q 0)), (2, .int x15)]) cx dX10_wrongHere_102 rfl (by decide) rfl ?_
            replace hf := nm_of hf
            obtain ⟨x19, ex19, hf⟩ := hf
            refine r_iinc (pc := 103) (loc' := [(2, .int x19), (1, .int (0 : Int32)), (0, .ref (q 0))]) (v := x19) cx dX10_wrongHere_103 2 rfl ((congrArg (fun z => x15 + z) ic_1).trans ex19.symm) (by decide) rfl ?_
            refine r_goto (pc := 106) (tgt := 67) cx dX10_wrongHere_106 (by decide) ?_
            refine r_loc (loc' := [(0, .ref (q 0)), (1, .int (0 : Int32)), (2, .int x19)]) [2, 1, 0] rfl ?_
            exact ih67 _ _ hf
          · replace hf := ifn h18 hf
            refine r_aload_n (pc := 76) cx dX10_wrongHere_76 0 rfl ?_
            refine r_get (pc := 77) cx cf_X10 0 26 rfl (by decide) rfl wd_1342 dX10_wrongHere_77 ?_
            refine r_bipush (pc := 80) cx dX10_wrongHere_80 bp_20 ?_
            refine r_iload_n (pc := 82) cx dX10_wrongHere_82 2 rfl ?_
            refine r_iadd (pc := 83) cx dX10_wrongHere_83 ?_
            replace hf := chk_of hf
            obtain ⟨h20, hf⟩ := hf
            refine r_iald (pc := 84) cx 15 rfl h20 dX10_wrongHere_84 ?_
            refine r_aload_n (pc := 85) cx dX10_wrongHere_85 0 rfl ?_
            refine r_get (pc := 86) cx cf_X10 0 26 rfl (by decide) rfl wd_1342 dX10_wrongHere_86 ?_
            refine r_bipush (pc := 89) cx dX10_wrongHere_89 bp_24 ?_
            refine r_iload_n (pc := 91) cx dX10_wrongHere_91 2 rfl ?_
            refine r_iadd (pc := 92) cx dX10_wrongHere_92 ?_
            replace hf := chk_of hf
            obtain ⟨h21, hf⟩ := hf
            refine r_iald (pc := 93) cx 15 rfl h21 dX10_wrongHere_93 ?_
            refine r_icmp_ne (pc := 94) (tgt := 101) cx dX10_wrongHere_94 (by decide) (fun h22 => ?_) (fun h22 => ?_)
            · replace hf := ifn h22 hf
              refine r_iconst (pc := 101) cx dX10_wrongHere_101 ic_0 ?_
              refine r_istore_n (pc := 102) (loc' := [(1, .int (0 : Int32)), (0, .ref (q 0)), (2, .int x15)]) cx dX10_wrongHere_102 rfl (by decide) rfl ?_
              replace hf := nm_of hf
              obtain ⟨x23, ex23, hf⟩ := hf
              refine r_iinc (pc := 103) (loc' := [(2, .int x23), (1, .int (0 : Int32)), (0, .ref (q 0))]) (v := x23) cx dX10_wrongHere_103 2 rfl ((congrArg (fun z => x15 + z) ic_1).trans ex23.symm) (by decide) rfl ?_
              refine r_goto (pc := 106) (tgt := 67) cx dX10_wrongHere_106 (by decide) ?_
              refine r_loc (loc' := [(0, .ref (q 0)), (1, .int (0 : Int32)), (2, .int x23)]) [2, 1, 0] rfl ?_
              exact ih67 _ _ hf
            · replace hf := ifp h22 hf
              refine r_iconst (pc := 97) cx dX10_wrongHere_97 ic_1 ?_
              refine r_goto (pc := 98) (tgt := 102) cx dX10_wrongHere_98 (by decide) ?_
              refine r_istore_n (pc := 102) (loc' := [(1, .int (1 : Int32)), (0, .ref (q 0)), (2, .int x15)]) cx dX10_wrongHere_102 rfl (by decide) rfl ?_
              replace hf := nm_of hf
              obtain ⟨x24, ex24, hf⟩ := hf
              refine r_iinc (pc := 103) (loc' := [(2, .int x24), (1, .int (1 : Int32)), (0, .ref (q 0))]) (v := x24) cx dX10_wrongHere_103 2 rfl ((congrArg (fun z => x15 + z) ic_1).trans ex24.symm) (by decide) rfl ?_
              refine r_goto (pc := 106) (tgt := 67) cx dX10_wrongHere_106 (by decide) ?_
              refine r_loc (loc' := [(0, .ref (q 0)), (1, .int (1 : Int32)), (2, .int x24)]) [2, 1, 0] rfl ?_
              exact ih67 _ _ hf
    refine r_loc (loc' := [(0, .ref (q 0)), (1, .int x5), (2, .int (0 : Int32))]) [1, 2, 0] rfl ?_
    refine hL67 _ (fun x16 hf => ?_) _ _ _ hf
    refine r_iload_n (pc := 109) cx dX10_wrongHere_109 1 rfl ?_
    refine r_if_ne (pc := 110) (tgt := 115) cx dX10_wrongHere_110 (by decide) (fun h25 => ?_) (fun h25 => ?_)
    · replace hf := ifn h25 hf
      refine r_aload_n (pc := 115) cx dX10_wrongHere_115 0 rfl ?_
      refine r_get (pc := 116) cx cf_X10 0 26 rfl (by decide) rfl wd_1342 dX10_wrongHere_116 ?_
      refine r_iconst (pc := 119) cx dX10_wrongHere_119 ic_2 ?_
      refine r_iald (pc := 120) cx 15 rfl (by decide) dX10_wrongHere_120 ?_
      refine r_aload_n (pc := 121) cx dX10_wrongHere_121 0 rfl ?_
      refine r_get (pc := 122) cx cf_X10 0 26 rfl (by decide) rfl wd_1342 dX10_wrongHere_122 ?_
      refine r_iconst (pc := 125) cx dX10_wrongHere_125 ic_3 ?_
      refine r_iald (pc := 126) cx 15 rfl (by decide) dX10_wrongHere_126 ?_
      refine r_icmp_ne (pc := 127) (tgt := 167) cx dX10_wrongHere_127 (by decide) (fun h26 => ?_) (fun h26 => ?_)
      · replace hf := ifn h26 hf
        refine r_iconst (pc := 167) cx dX10_wrongHere_167 ic_5 ?_
        have hi := inj1 hf
        exact r_iret (pc := 168) cx hi rfl dX10_wrongHere_168
      · replace hf := ifp h26 hf
        refine r_aload_n (pc := 130) cx dX10_wrongHere_130 0 rfl ?_
        refine r_get (pc := 131) cx cf_X10 0 26 rfl (by decide) rfl wd_1342 dX10_wrongHere_131 ?_
        refine r_bipush (pc := 134) cx dX10_wrongHere_134 bp_86 ?_
        refine r_iald (pc := 136) cx 15 rfl (by decide) dX10_wrongHere_136 ?_
        refine r_if_gt (pc := 137) (tgt := 167) cx dX10_wrongHere_137 (by decide) (fun h27 => ?_) (fun h27 => ?_)
        · replace hf := ifp h27 hf
          refine r_iconst (pc := 167) cx dX10_wrongHere_167 ic_5 ?_
          have hi := inj1 hf
          exact r_iret (pc := 168) cx hi rfl dX10_wrongHere_168
        · replace hf := ifn h27 hf
          refine r_aload_n (pc := 140) cx dX10_wrongHere_140 0 rfl ?_
          refine r_get (pc := 141) cx cf_X10 0 26 rfl (by decide) rfl wd_1342 dX10_wrongHere_141 ?_
          refine r_bipush (pc := 144) cx dX10_wrongHere_144 bp_103 ?_
          refine r_iald (pc := 146) cx 15 rfl (by decide) dX10_wrongHere_146 ?_
          refine r_if_gt (pc := 147) (tgt := 167) cx dX10_wrongHere_147 (by decide) (fun h28 => ?_) (fun h28 => ?_)
          · replace hf := ifp h28 hf
            refine r_iconst (pc := 167) cx dX10_wrongHere_167 ic_5 ?_
            have hi := inj1 hf
            exact r_iret (pc := 168) cx hi rfl dX10_wrongHere_168
          · replace hf := ifn h28 hf
            refine r_aload_n (pc := 150) cx dX10_wrongHere_150 0 rfl ?_
            refine r_get (pc := 151) cx cf_X10 0 26 rfl (by decide) rfl wd_1342 dX10_wrongHere_151 ?_
            refine r_bipush (pc := 154) cx dX10_wrongHere_154 bp_112 ?_
            refine r_iald (pc := 156) cx 15 rfl (by decide) dX10_wrongHere_156 ?_
            refine r_aload_n (pc := 157) cx dX10_wrongHere_157 0 rfl ?_
            refine r_get (pc := 158) cx cf_X10 0 26 rfl (by decide) rfl wd_1342 dX10_wrongHere_158 ?_
            refine r_bipush (pc := 161) cx dX10_wrongHere_161 bp_113 ?_
            refine r_iald (pc := 163) cx 15 rfl (by decide) dX10_wrongHere_163 ?_
            refine r_icmp_eq (pc := 164) (tgt := 169) cx dX10_wrongHere_164 (by decide) (fun h29 => ?_) (fun h29 => ?_)
            · replace hf := ifp h29 hf
              refine r_iconst (pc := 169) cx dX10_wrongHere_169 ic_0 ?_
              refine r_istore_n (pc := 170) (loc' := [(2, .int (0 : Int32)), (0, .ref (q 0)), (1, .int x16)]) cx dX10_wrongHere_170 rfl (by decide) rfl ?_
              have hL171 : ∀ (k171_226 : Option (Int32)) (k171_235 : Option (Int32)), (k171_226 = some r_ → WW p l e rm_M_wrongHere s m args below meth c D A 3 0 0 (MQ below (QI D K A r_ (cl_M K q v)) args s 0 0 A) ([((q 0), ob 9 [.int (M_thrown v), .ref (q 1), .int (M_taped (M_tp v)), .ref (q 2), .ref (q 3), .ref (q 4), .ref (q 5), .ref (q 6), .ref (q 7), .ref (q 8), .ref (q 9), .ref (q 10), .ref (q 11), .ref (q 12), .ref (q 13), .ref (q 14), .int (M_lines (M_rd v)), .int (M_size (M_rd v)), .int (M_at (M_rd v)), .int (M_place (M_rd v)), .int (M_sort (M_rd v)), .int (M_value (M_rd v)), .int (M_fault (M_rd v)), .int (M_faultPlace (M_rd v)), .int (M_lastFault (M_lf v)), .int (M_lastPlace (M_lf v)), .ref (q 15), .ref (q 16), .ref (q 17), .ref (q 18), .int (M_hasImage (M_im v)), .int (M_spanNow (M_rn v)), .ref (q 19), .int (M_placeThen (M_rn v)), .int (M_alonePlace (M_al v)), .int (M_aloneSteps (M_al v)), .int (M_aloneOut (M_al v)), .ref (q 20), .ref (q 21), .ref (q 22), .ref (q 23), .int (M_shotAlarm (M_ex v)), .int (M_drawn (M_ex v))]), ((q 1), aI K 700 (M_tape (M_tp v))), ((q 2), aI K 20 (M_number (M_cd v))), ((q 3), aZ K 5 (M_isTold (M_rd v))), ((q 4), aI K 80 (M_codeSort (M_cd v))), ((q 5), aI K 80 (M_codeA (M_cd v))), ((q 6), aI K 80 (M_codeB (M_cd v))), ((q 7), aI K 80 (M_codeC (M_cd v))), ((q 8), aI K 80 (M_codeName (M_cd v))), ((q 9), aI K 80 (M_codePlace (M_cd v))), ((q 10), aI K 80 (M_codeTo (M_cd v))), ((q 11), aI K 280 (M_labelName (M_cd v))), ((q 12), aI K 280 (M_labelAt (M_cd v))), ((q 13), aI K 64 (M_data (M_cd v))), ((q 14), aZ K 32 (M_hasData (M_rd v))), ((q 15), aI K 314 (M_s (M_rn v))), ((q 16), aI K 314 (M_aside (M_ex v))), ((q 17), aI K 314 (M_further (M_ex v))), ((q 18), aI K 314 (M_image (M_im v))), ((q 19), aI K 3 (M_sizeNow (M_rn v))), ((q 20), aI K 8 (M_aloneRegister (M_al v))), ((q 21), aI K 4 (M_aloneReal (M_al v))), ((q 22), aI K 32 (M_aloneMemory (M_al v))), ((q 23), aI K 999 (M_aloneOutput (M_al v)))]) ([]) ([]) 226) → (k171_235 = some r_ → WW p l e rm_M_wrongHere s m args below meth c D A 3 0 0 (MQ below (QI D K A r_ (cl_M K q v)) args s 0 0 A) ([((q 0), ob 9 [.int (M_thrown v), .ref (q 1), .int (M_taped (M_tp v)), .ref (q 2), .ref (q 3), .ref (q 4), .ref (q 5), .ref (q 6), .ref (q 7), .ref (q 8), .ref (q 9), .ref (q 10), .ref (q 11), .ref (q 12), .ref (q 13), .ref (q 14), .int (M_lines (M_rd v)), .int (M_size (M_rd v)), .int (M_at (M_rd v)), .int (M_place (M_rd v)), .int (M_sort (M_rd v)), .int (M_value (M_rd v)), .int (M_fault (M_rd v)), .int (M_faultPlace (M_rd v)), .int (M_lastFault (M_lf v)), .int (M_lastPlace (M_lf v)), .ref (q 15), .ref (q 16), .ref (q 17), .ref (q 18), .int (M_hasImage (M_im v)), .int (M_spanNow (M_rn v)), .ref (q 19), .int (M_placeThen (M_rn v)), .int (M_alonePlace (M_al v)), .int (M_aloneSteps (M_al v)), .int (M_aloneOut (M_al v)), .ref (q 20), .ref (q 21), .ref (q 22), .ref (q 23), .int (M_shotAlarm (M_ex v)), .int (M_drawn (M_ex v))]), ((q 1), aI K 700 (M_tape (M_tp v))), ((q 2), aI K 20 (M_number (M_cd v))), ((q 3), aZ K 5 (M_isTold (M_rd v))), ((q 4), aI K 80 (M_codeSort (M_cd v))), ((q 5), aI K 80 (M_codeA (M_cd v))), ((q 6), aI K 80 (M_codeB (M_cd v))), ((q 7), aI K 80 (M_codeC (M_cd v))), ((q 8), aI K 80 (M_codeName (M_cd v))), ((q 9), aI K 80 (M_codePlace (M_cd v))), ((q 10), aI K 80 (M_codeTo (M_cd v))), ((q 11), aI K 280 (M_labelName (M_cd v))), ((q 12), aI K 280 (M_labelAt (M_cd v))), ((q 13), aI K 64 (M_data (M_cd v))), ((q 14), aZ K 32 (M_hasData (M_rd v))), ((q 15), aI K 314 (M_s (M_rn v))), ((q 16), aI K 314 (M_aside (M_ex v))), ((q 17), aI K 314 (M_further (M_ex v))), ((q 18), aI K 314 (M_image (M_im v))), ((q 19), aI K 3 (M_sizeNow (M_rn v))), ((q 20), aI K 8 (M_aloneRegister (M_al v))), ((q 21), aI K 4 (M_aloneReal (M_al v))), ((q 22), aI K 32 (M_aloneMemory (M_al v))), ((q 23), aI K 999 (M_aloneOutput (M_al v)))]) ([]) ([]) 235) → ∀ (n171 : Nat) (x30 : Int32), f_M_wrongHere_L171 v k171_226 k171_235 n171 x30 = some r_ → WW p l e rm_M_wrongHere s m args below meth c D A 3 0 0 (MQ below (QI D K A r_ (cl_M K q v)) args s 0 0 A) ([((q 0), ob 9 [.int (M_thrown v), .ref (q 1), .int (M_taped (M_tp v)), .ref (q 2), .ref (q 3), .ref (q 4), .ref (q 5), .ref (q 6), .ref (q 7), .ref (q 8), .ref (q 9), .ref (q 10), .ref (q 11), .ref (q 12), .ref (q 13), .ref (q 14), .int (M_lines (M_rd v)), .int (M_size (M_rd v)), .int (M_at (M_rd v)), .int (M_place (M_rd v)), .int (M_sort (M_rd v)), .int (M_value (M_rd v)), .int (M_fault (M_rd v)), .int (M_faultPlace (M_rd v)), .int (M_lastFault (M_lf v)), .int (M_lastPlace (M_lf v)), .ref (q 15), .ref (q 16), .ref (q 17), .ref (q 18), .int (M_hasImage (M_im v)), .int (M_spanNow (M_rn v)), .ref (q 19), .int (M_placeThen (M_rn v)), .int (M_alonePlace (M_al v)), .int (M_aloneSteps (M_al v)), .int (M_aloneOut (M_al v)), .ref (q 20), .ref (q 21), .ref (q 22), .ref (q 23), .int (M_shotAlarm (M_ex v)), .int (M_drawn (M_ex v))]), ((q 1), aI K 700 (M_tape (M_tp v))), ((q 2), aI K 20 (M_number (M_cd v))), ((q 3), aZ K 5 (M_isTold (M_rd v))), ((q 4), aI K 80 (M_codeSort (M_cd v))), ((q 5), aI K 80 (M_codeA (M_cd v))), ((q 6), aI K 80 (M_codeB (M_cd v))), ((q 7), aI K 80 (M_codeC (M_cd v))), ((q 8), aI K 80 (M_codeName (M_cd v))), ((q 9), aI K 80 (M_codePlace (M_cd v))), ((q 10), aI K 80 (M_codeTo (M_cd v))), ((q 11), aI K 280 (M_labelName (M_cd v))), ((q 12), aI K 280 (M_labelAt (M_cd v))), ((q 13), aI K 64 (M_data (M_cd v))), ((q 14), aZ K 32 (M_hasData (M_rd v))), ((q 15), aI K 314 (M_s (M_rn v))), ((q 16), aI K 314 (M_aside (M_ex v))), ((q 17), aI K 314 (M_further (M_ex v))), ((q 18), aI K 314 (M_image (M_im v))), ((q 19), aI K 3 (M_sizeNow (M_rn v))), ((q 20), aI K 8 (M_aloneRegister (M_al v))), ((q 21), aI K 4 (M_aloneReal (M_al v))), ((q 22), aI K 32 (M_aloneMemory (M_al v))), ((q 23), aI K 999 (M_aloneOutput (M_al v)))]) ([(0, .ref (q 0)), (2, .int x30)]) ([]) 171 := by
                clear hf
                intro k171_226 k171_235 hk171_226 hk171_235 n171
                induction n171 with
                | zero => intro x30 hf; exact (nomatch (show (none : Option (Int32)) = some _ from hf))
                | succ n171 ih171 =>
                  intro x30 hf
                  rw [f_M_wrongHere_L171] at hf
                  refine r_iload_n (pc := 171) cx dX10_wrongHere_171 1 rfl ?_
                  refine r_aload_n (pc := 172) cx dX10_wrongHere_172 0 rfl ?_
                  refine r_get (pc := 173) cx cf_X10 0 26 rfl (by decide) rfl wd_1342 dX10_wrongHere_173 ?_
                  refine r_bipush (pc := 176) cx dX10_wrongHere_176 bp_112 ?_
                  refine r_iald (pc := 178) cx 15 rfl (by decide) dX10_wrongHere_178 ?_
                  refine r_icmp_ge (pc := 179) (tgt := 235) cx dX10_wrongHere_179 (by decide) (fun h31 => ?_) (fun h31 => ?_)
                  · replace hf := ifp h31 hf
                    refine r_loc (loc' := []) [] rfl ?_
                    exact hk171_235 hf
                  · replace hf := ifn h31 hf
                    refine r_aload_n (pc := 182) cx dX10_wrongHere_182 0 rfl ?_
                    refine r_get (pc := 183) cx cf_X10 0 26 rfl (by decide) rfl wd_1342 dX10_wrongHere_183 ?_
                    refine r_bipush (pc := 186) cx dX10_wrongHere_186 bp_114 ?_
                    refine r_iload_n (pc := 188) cx dX10_wrongHere_188 1 rfl ?_
                    refine r_iadd (pc := 189) cx dX10_wrongHere_189 ?_
                    replace hf := chk_of hf
                    obtain ⟨h32, hf⟩ := hf
                    refine r_iald (pc := 190) cx 15 rfl h32 dX10_wrongHere_190 ?_
                    refine r_aload_n (pc := 191) cx dX10_wrongHere_191 0 rfl ?_
                    refine r_get (pc := 192) cx cf_X10 0 26 rfl (by decide) rfl wd_1342 dX10_wrongHere_192 ?_
                    refine r_sipush (pc := 195) cx dX10_wrongHere_195 sp_130 ?_
                    refine r_iload_n (pc := 198) cx dX10_wrongHere_198 1 rfl ?_
                    refine r_iadd (pc := 199) cx dX10_wrongHere_199 ?_
                    replace hf := chk_of hf
                    obtain ⟨h33, hf⟩ := hf
                    refine r_iald (pc := 200) cx 15 rfl h33 dX10_wrongHere_200 ?_
                    refine r_icmp_ne (pc := 201) (tgt := 226) cx dX10_wrongHere_201 (by decide) (fun h34 => ?_) (fun h34 => ?_)
                    · replace hf := ifn h34 hf
                      refine r_loc (loc' := []) [] rfl ?_
                      exact hk171_226 hf
                    · replace hf := ifp h34 hf
                      refine r_aload_n (pc := 204) cx dX10_wrongHere_204 0 rfl ?_
                      refine r_get (pc := 205) cx cf_X10 0 26 rfl (by decide) rfl wd_1342 dX10_wrongHere_205 ?_
                      refine r_bipush (pc := 208) cx dX10_wrongHere_208 bp_122 ?_
                      refine r_iload_n (pc := 210) cx dX10_wrongHere_210 1 rfl ?_
                      refine r_iadd (pc := 211) cx dX10_wrongHere_211 ?_
                      replace hf := chk_of hf
                      obtain ⟨h35, hf⟩ := hf
                      refine r_iald (pc := 212) cx 15 rfl h35 dX10_wrongHere_212 ?_
                      refine r_aload_n (pc := 213) cx dX10_wrongHere_213 0 rfl ?_
                      refine r_get (pc := 214) cx cf_X10 0 26 rfl (by decide) rfl wd_1342 dX10_wrongHere_214 ?_
                      refine r_sipush (pc := 217) cx dX10_wrongHere_217 sp_138 ?_
                      refine r_iload_n (pc := 220) cx dX10_wrongHere_220 1 rfl ?_
                      refine r_iadd (pc := 221) cx dX10_wrongHere_221 ?_
                      replace hf := chk_of hf
                      obtain ⟨h36, hf⟩ := hf
                      refine r_iald (pc := 222) cx 15 rfl h36 dX10_wrongHere_222 ?_
                      refine r_icmp_eq (pc := 223) (tgt := 229) cx dX10_wrongHere_223 (by decide) (fun h37 => ?_) (fun h37 => ?_)
                      · replace hf := ifp h37 hf
                        replace hf := nm_of hf
                        obtain ⟨x38, ex38, hf⟩ := hf
                        refine r_iinc (pc := 229) (loc' := [(2, .int x38), (0, .ref (q 0))]) (v := x38) cx dX10_wrongHere_229 1 rfl ((congrArg (fun z => x30 + z) ic_1).trans ex38.symm) (by decide) rfl ?_
                        refine r_goto (pc := 232) (tgt := 171) cx dX10_wrongHere_232 (by decide) ?_
                        refine r_loc (loc' := [(0, .ref (q 0)), (2, .int x38)]) [1, 0] rfl ?_
                        exact ih171 _ hf
                      · replace hf := ifn h37 hf
                        refine r_loc (loc' := []) [] rfl ?_
                        exact hk171_226 hf
              refine r_loc (loc' := [(0, .ref (q 0)), (2, .int (0 : Int32))]) [1, 0] rfl ?_
              refine hL171 _ _ (fun hf => ?_) (fun hf => ?_) _ _ hf
              · refine r_bipush (pc := 226) cx dX10_wrongHere_226 bp_6 ?_
                have hi := inj1 hf
                exact r_iret (pc := 228) cx hi rfl dX10_wrongHere_228
              · refine r_iconst (pc := 235) cx dX10_wrongHere_235 ic_0 ?_
                have hi := inj1 hf
                exact r_iret (pc := 236) cx hi rfl dX10_wrongHere_236
            · replace hf := ifn h29 hf
              refine r_iconst (pc := 167) cx dX10_wrongHere_167 ic_5 ?_
              have hi := inj1 hf
              exact r_iret (pc := 168) cx hi rfl dX10_wrongHere_168
    · replace hf := ifp h25 hf
      refine r_iconst (pc := 113) cx dX10_wrongHere_113 ic_4 ?_
      have hi := inj1 hf
      exact r_iret (pc := 114) cx hi rfl dX10_wrongHere_114
  refine r_icmp_ne (pc := 12) (tgt := 19) cx dX10_wrongHere_12 (by decide) (fun h39 => ?_) (fun h39 => ?_)
  · replace hf := ifn h39 hf
    refine r_iconst (pc := 19) cx dX10_wrongHere_19 ic_0 ?_
    exact hJ2 _ hf
  · replace hf := ifp h39 hf
    refine r_iconst (pc := 15) cx dX10_wrongHere_15 ic_1 ?_
    refine r_goto (pc := 16) (tgt := 20) cx dX10_wrongHere_16 (by decide) ?_
    exact hJ2 _ hf
theorem yv_X10_wrongHere : YV yX10_wrongHere cX10_wrongHere 3 (some .int) 0 := ⟨⟨by decide +kernel, by decide +kernel, by decide +kernel⟩, wd_1674, wd_102, wd_1673, wd_68⟩
abbrev rm_M_journal : Room := { frames := 0, cells := 0, slots := 0, locals := 0 }
set_option maxRecDepth 100000 in
set_option maxHeartbeats 4000000 in
theorem m_M_journal (l : Launch) (D : va_G) (K : Nat → ClassId) (q : Nat → Nat) (v : T_M) (a1 : Int32) (a2 : Int32) {o_v : T_M} (hf : f_M_journal v a1 a2 = some o_v) : MV l yX10_journal cX10_journal 4 (none) rm_M_journal D K [.ref (q 0), .int a1, .int a2] (cl_M K q v) (cl_M K q o_v) := by
  refine MV_of (loc0 := [(0, .ref (q 0)), (1, .int a1), (2, .int a2)]) (by decide +kernel) rfl (Nat.le_of_ble_eq_true rfl) ?_
  intro p e s m args below meth c A cx
  unfold f_M_journal at hf
  refine r_ws (ws' := [((q 0), ob 9 [.int (M_thrown v), .ref (q 1), .int (M_taped (M_tp v)), .ref (q 2), .ref (q 3), .ref (q 4), .ref (q 5), .ref (q 6), .ref (q 7), .ref (q 8), .ref (q 9), .ref (q 10), .ref (q 11), .ref (q 12), .ref (q 13), .ref (q 14), .int (M_lines (M_rd v)), .int (M_size (M_rd v)), .int (M_at (M_rd v)), .int (M_place (M_rd v)), .int (M_sort (M_rd v)), .int (M_value (M_rd v)), .int (M_fault (M_rd v)), .int (M_faultPlace (M_rd v)), .int (M_lastFault (M_lf v)), .int (M_lastPlace (M_lf v)), .ref (q 15), .ref (q 16), .ref (q 17), .ref (q 18), .int (M_hasImage (M_im v)), .int (M_spanNow (M_rn v)), .ref (q 19), .int (M_placeThen (M_rn v)), .int (M_alonePlace (M_al v)), .int (M_aloneSteps (M_al v)), .int (M_aloneOut (M_al v)), .ref (q 20), .ref (q 21), .ref (q 22), .ref (q 23), .int (M_shotAlarm (M_ex v)), .int (M_drawn (M_ex v))]), ((q 1), aI K 700 (M_tape (M_tp v))), ((q 2), aI K 20 (M_number (M_cd v))), ((q 3), aZ K 5 (M_isTold (M_rd v))), ((q 4), aI K 80 (M_codeSort (M_cd v))), ((q 5), aI K 80 (M_codeA (M_cd v))), ((q 6), aI K 80 (M_codeB (M_cd v))), ((q 7), aI K 80 (M_codeC (M_cd v))), ((q 8), aI K 80 (M_codeName (M_cd v))), ((q 9), aI K 80 (M_codePlace (M_cd v))), ((q 10), aI K 80 (M_codeTo (M_cd v))), ((q 11), aI K 280 (M_labelName (M_cd v))), ((q 12), aI K 280 (M_labelAt (M_cd v))), ((q 13), aI K 64 (M_data (M_cd v))), ((q 14), aZ K 32 (M_hasData (M_rd v))), ((q 15), aI K 314 (M_s (M_rn v))), ((q 16), aI K 314 (M_aside (M_ex v))), ((q 17), aI K 314 (M_further (M_ex v))), ((q 18), aI K 314 (M_image (M_im v))), ((q 19), aI K 3 (M_sizeNow (M_rn v))), ((q 20), aI K 8 (M_aloneRegister (M_al v))), ((q 21), aI K 4 (M_aloneReal (M_al v))), ((q 22), aI K 32 (M_aloneMemory (M_al v))), ((q 23), aI K 999 (M_aloneOutput (M_al v)))]) rfl ?_
  refine r_aload_n (pc := 0) cx dX10_journal_0 0 rfl ?_
  refine r_get (pc := 1) cx cf_X10 0 26 rfl (by decide) rfl wd_1342 dX10_journal_1 ?_
  refine r_sipush (pc := 4) cx dX10_journal_4 sp_265 ?_
  refine r_iald (pc := 7) cx 15 rfl (by decide) dX10_journal_7 ?_
  refine r_bipush (pc := 8) cx dX10_journal_8 bp_16 ?_
  replace hf := nm_of hf
  obtain ⟨J2, eJ2, hf⟩ := hf
  have hJ2 : ∀ (f1 : (Nat → Int32)), J2 f1 = some o_v → WW p l e rm_M_journal s m args below meth c D A 4 0 0 (MQ below (QV D K A (cl_M K q o_v)) args s 0 0 A) ([((q 0), ob 9 [.int (M_thrown v), .ref (q 1), .int (M_taped (M_tp v)), .ref (q 2), .ref (q 3), .ref (q 4), .ref (q 5), .ref (q 6), .ref (q 7), .ref (q 8), .ref (q 9), .ref (q 10), .ref (q 11), .ref (q 12), .ref (q 13), .ref (q 14), .int (M_lines (M_rd v)), .int (M_size (M_rd v)), .int (M_at (M_rd v)), .int (M_place (M_rd v)), .int (M_sort (M_rd v)), .int (M_value (M_rd v)), .int (M_fault (M_rd v)), .int (M_faultPlace (M_rd v)), .int (M_lastFault (M_lf v)), .int (M_lastPlace (M_lf v)), .ref (q 15), .ref (q 16), .ref (q 17), .ref (q 18), .int (M_hasImage (M_im v)), .int (M_spanNow (M_rn v)), .ref (q 19), .int (M_placeThen (M_rn v)), .int (M_alonePlace (M_al v)), .int (M_aloneSteps (M_al v)), .int (M_aloneOut (M_al v)), .ref (q 20), .ref (q 21), .ref (q 22), .ref (q 23), .int (M_shotAlarm (M_ex v)), .int (M_drawn (M_ex v))]), ((q 1), aI K 700 (M_tape (M_tp v))), ((q 2), aI K 20 (M_number (M_cd v))), ((q 3), aZ K 5 (M_isTold (M_rd v))), ((q 4), aI K 80 (M_codeSort (M_cd v))), ((q 5), aI K 80 (M_codeA (M_cd v))), ((q 6), aI K 80 (M_codeB (M_cd v))), ((q 7), aI K 80 (M_codeC (M_cd v))), ((q 8), aI K 80 (M_codeName (M_cd v))), ((q 9), aI K 80 (M_codePlace (M_cd v))), ((q 10), aI K 80 (M_codeTo (M_cd v))), ((q 11), aI K 280 (M_labelName (M_cd v))), ((q 12), aI K 280 (M_labelAt (M_cd v))), ((q 13), aI K 64 (M_data (M_cd v))), ((q 14), aZ K 32 (M_hasData (M_rd v))), ((q 15), aI K 314 f1), ((q 16), aI K 314 (M_aside (M_ex v))), ((q 17), aI K 314 (M_further (M_ex v))), ((q 18), aI K 314 (M_image (M_im v))), ((q 19), aI K 3 (M_sizeNow (M_rn v))), ((q 20), aI K 8 (M_aloneRegister (M_al v))), ((q 21), aI K 4 (M_aloneReal (M_al v))), ((q 22), aI K 32 (M_aloneMemory (M_al v))), ((q 23), aI K 999 (M_aloneOutput (M_al v)))]) ([(0, .ref (q 0)), (1, .int a1), (2, .int a2)]) ([]) 61 := by
    clear hf
    intro f1 hf
    rw [eJ2] at hf
    refine r_sipush (pc := 61) cx dX10_journal_61 sp_266 ?_
    refine r_iconst (pc := 64) cx dX10_journal_64 ic_3 ?_
    refine r_aload_n (pc := 65) cx dX10_journal_65 0 rfl ?_
    refine r_get (pc := 66) cx cf_X10 0 26 rfl (by decide) rfl wd_1342 dX10_journal_66 ?_
    refine r_sipush (pc := 69) cx dX10_journal_69 sp_265 ?_
    refine r_iald (pc := 72) cx 15 rfl (by decide) dX10_journal_72 ?_
    refine r_imul (pc := 73) cx dX10_journal_73 ?_
    refine r_iadd (pc := 74) cx dX10_journal_74 ?_
    replace hf := nm_of hf
    obtain ⟨x3, ex3, hf⟩ := hf
    refine r_nm ex3 ?_
    refine r_istore_n (pc := 75) (loc' := [(3, .int x3), (0, .ref (q 0)), (1, .int a1), (2, .int a2)]) cx dX10_journal_75 rfl (by decide) rfl ?_
    refine r_aload_n (pc := 76) cx dX10_journal_76 1 rfl ?_
    refine r_get (pc := 77) cx cf_X10 0 26 rfl (by decide) rfl wd_1342 dX10_journal_77 ?_
    refine r_iload_n (pc := 80) cx dX10_journal_80 0 rfl ?_
    refine r_iload_n (pc := 81) cx dX10_journal_81 2 rfl ?_
    refine r_bipush (pc := 82) cx dX10_journal_82 bp_32 ?_
    replace hf := nm_of hf
    obtain ⟨J5, eJ5, hf⟩ := hf
    have hJ5 : ∀ (y4 : Int32), J5 y4 = some o_v → WW p l e rm_M_journal s m args below meth c D A 4 0 0 (MQ below (QV D K A (cl_M K q o_v)) args s 0 0 A) ([((q 0), ob 9 [.int (M_thrown v), .ref (q 1), .int (M_taped (M_tp v)), .ref (q 2), .ref (q 3), .ref (q 4), .ref (q 5), .ref (q 6), .ref (q 7), .ref (q 8), .ref (q 9), .ref (q 10), .ref (q 11), .ref (q 12), .ref (q 13), .ref (q 14), .int (M_lines (M_rd v)), .int (M_size (M_rd v)), .int (M_at (M_rd v)), .int (M_place (M_rd v)), .int (M_sort (M_rd v)), .int (M_value (M_rd v)), .int (M_fault (M_rd v)), .int (M_faultPlace (M_rd v)), .int (M_lastFault (M_lf v)), .int (M_lastPlace (M_lf v)), .ref (q 15), .ref (q 16), .ref (q 17), .ref (q 18), .int (M_hasImage (M_im v)), .int (M_spanNow (M_rn v)), .ref (q 19), .int (M_placeThen (M_rn v)), .int (M_alonePlace (M_al v)), .int (M_aloneSteps (M_al v)), .int (M_aloneOut (M_al v)), .ref (q 20), .ref (q 21), .ref (q 22), .ref (q 23), .int (M_shotAlarm (M_ex v)), .int (M_drawn (M_ex v))]), ((q 1), aI K 700 (M_tape (M_tp v))), ((q 2), aI K 20 (M_number (M_cd v))), ((q 3), aZ K 5 (M_isTold (M_rd v))), ((q 4), aI K 80 (M_codeSort (M_cd v))), ((q 5), aI K 80 (M_codeA (M_cd v))), ((q 6), aI K 80 (M_codeB (M_cd v))), ((q 7), aI K 80 (M_codeC (M_cd v))), ((q 8), aI K 80 (M_codeName (M_cd v))), ((q 9), aI K 80 (M_codePlace (M_cd v))), ((q 10), aI K 80 (M_codeTo (M_cd v))), ((q 11), aI K 280 (M_labelName (M_cd v))), ((q 12), aI K 280 (M_labelAt (M_cd v))), ((q 13), aI K 64 (M_data (M_cd v))), ((q 14), aZ K 32 (M_hasData (M_rd v))), ((q 15), aI K 314 f1), ((q 16), aI K 314 (M_aside (M_ex v))), ((q 17), aI K 314 (M_further (M_ex v))), ((q 18), aI K 314 (M_image (M_im v))), ((q 19), aI K 3 (M_sizeNow (M_rn v))), ((q 20), aI K 8 (M_aloneRegister (M_al v))), ((q 21), aI K 4 (M_aloneReal (M_al v))), ((q 22), aI K 32 (M_aloneMemory (M_al v))), ((q 23), aI K 999 (M_aloneOutput (M_al v)))]) ([(0, .ref (q 0)), (1, .int a1), (2, .int a2), (3, .int x3)]) ([.int y4, .int x3, .ref (q 15)]) 93 := by
      clear hf
      intro y4 hf
      rw [eJ5] at hf
      replace hf := chk_of hf
      obtain ⟨h6, hf⟩ := hf
      replace hf := nm_of hf
      obtain ⟨f7, ef7, hf⟩ := hf
      refine r_iast (pc := 93) (ws' := [((q 0), ob 9 [.int (M_thrown v), .ref (q 1), .int (M_taped (M_tp v)), .ref (q 2), .ref (q 3), .ref (q 4), .ref (q 5), .ref (q 6), .ref (q 7), .ref (q 8), .ref (q 9), .ref (q 10), .ref (q 11), .ref (q 12), .ref (q 13), .ref (q 14), .int (M_lines (M_rd v)), .int (M_size (M_rd v)), .int (M_at (M_rd v)), .int (M_place (M_rd v)), .int (M_sort (M_rd v)), .int (M_value (M_rd v)), .int (M_fault (M_rd v)), .int (M_faultPlace (M_rd v)), .int (M_lastFault (M_lf v)), .int (M_lastPlace (M_lf v)), .ref (q 15), .ref (q 16), .ref (q 17), .ref (q 18), .int (M_hasImage (M_im v)), .int (M_spanNow (M_rn v)), .ref (q 19), .int (M_placeThen (M_rn v)), .int (M_alonePlace (M_al v)), .int (M_aloneSteps (M_al v)), .int (M_aloneOut (M_al v)), .ref (q 20), .ref (q 21), .ref (q 22), .ref (q 23), .int (M_shotAlarm (M_ex v)), .int (M_drawn (M_ex v))]), ((q 1), aI K 700 (M_tape (M_tp v))), ((q 2), aI K 20 (M_number (M_cd v))), ((q 3), aZ K 5 (M_isTold (M_rd v))), ((q 4), aI K 80 (M_codeSort (M_cd v))), ((q 5), aI K 80 (M_codeA (M_cd v))), ((q 6), aI K 80 (M_codeB (M_cd v))), ((q 7), aI K 80 (M_codeC (M_cd v))), ((q 8), aI K 80 (M_codeName (M_cd v))), ((q 9), aI K 80 (M_codePlace (M_cd v))), ((q 10), aI K 80 (M_codeTo (M_cd v))), ((q 11), aI K 280 (M_labelName (M_cd v))), ((q 12), aI K 280 (M_labelAt (M_cd v))), ((q 13), aI K 64 (M_data (M_cd v))), ((q 14), aZ K 32 (M_hasData (M_rd v))), ((q 15), aI K 314 f7), ((q 16), aI K 314 (M_aside (M_ex v))), ((q 17), aI K 314 (M_further (M_ex v))), ((q 18), aI K 314 (M_image (M_im v))), ((q 19), aI K 3 (M_sizeNow (M_rn v))), ((q 20), aI K 8 (M_aloneRegister (M_al v))), ((q 21), aI K 4 (M_aloneReal (M_al v))), ((q 22), aI K 32 (M_aloneMemory (M_al v))), ((q 23), aI K 999 (M_aloneOutput (M_al v)))]) cx 15 rfl h6 dX10_journal_93 ef7 rfl ?_
      refine r_aload_n (pc := 94) cx dX10_journal_94 0 rfl ?_
      refine r_get (pc := 95) cx cf_X10 0 26 rfl (by decide) rfl wd_1342 dX10_journal_95 ?_
      refine r_iload_n (pc := 98) cx dX10_journal_98 3 rfl ?_
      refine r_iconst (pc := 99) cx dX10_journal_99 ic_1 ?_
      refine r_iadd (pc := 100) cx dX10_journal_100 ?_
      refine r_iload_n (pc := 101) cx dX10_journal_101 2 rfl ?_
      replace hf := chk_of hf
      obtain ⟨h8, hf⟩ := hf
      replace hf := nm_of hf
      obtain ⟨f9, ef9, hf⟩ := hf
      refine r_iast (pc := 102) (ws' := [((q 0), ob 9 [.int (M_thrown v), .ref (q 1), .int (M_taped (M_tp v)), .ref (q 2), .ref (q 3), .ref (q 4), .ref (q 5), .ref (q 6), .ref (q 7), .ref (q 8), .ref (q 9), .ref (q 10), .ref (q 11), .ref (q 12), .ref (q 13), .ref (q 14), .int (M_lines (M_rd v)), .int (M_size (M_rd v)), .int (M_at (M_rd v)), .int (M_place (M_rd v)), .int (M_sort (M_rd v)), .int (M_value (M_rd v)), .int (M_fault (M_rd v)), .int (M_faultPlace (M_rd v)), .int (M_lastFault (M_lf v)), .int (M_lastPlace (M_lf v)), .ref (q 15), .ref (q 16), .ref (q 17), .ref (q 18), .int (M_hasImage (M_im v)), .int (M_spanNow (M_rn v)), .ref (q 19), .int (M_placeThen (M_rn v)), .int (M_alonePlace (M_al v)), .int (M_aloneSteps (M_al v)), .int (M_aloneOut (M_al v)), .ref (q 20), .ref (q 21), .ref (q 22), .ref (q 23), .int (M_shotAlarm (M_ex v)), .int (M_drawn (M_ex v))]), ((q 1), aI K 700 (M_tape (M_tp v))), ((q 2), aI K 20 (M_number (M_cd v))), ((q 3), aZ K 5 (M_isTold (M_rd v))), ((q 4), aI K 80 (M_codeSort (M_cd v))), ((q 5), aI K 80 (M_codeA (M_cd v))), ((q 6), aI K 80 (M_codeB (M_cd v))), ((q 7), aI K 80 (M_codeC (M_cd v))), ((q 8), aI K 80 (M_codeName (M_cd v))), ((q 9), aI K 80 (M_codePlace (M_cd v))), ((q 10), aI K 80 (M_codeTo (M_cd v))), ((q 11), aI K 280 (M_labelName (M_cd v))), ((q 12), aI K 280 (M_labelAt (M_cd v))), ((q 13), aI K 64 (M_data (M_cd v))), ((q 14), aZ K 32 (M_hasData (M_rd v))), ((q 15), aI K 314 f9), ((q 16), aI K 314 (M_aside (M_ex v))), ((q 17), aI K 314 (M_further (M_ex v))), ((q 18), aI K 314 (M_image (M_im v))), ((q 19), aI K 3 (M_sizeNow (M_rn v))), ((q 20), aI K 8 (M_aloneRegister (M_al v))), ((q 21), aI K 4 (M_aloneReal (M_al v))), ((q 22), aI K 32 (M_aloneMemory (M_al v))), ((q 23), aI K 999 (M_aloneOutput (M_al v)))]) cx 15 rfl h8 dX10_journal_102 ef9 rfl ?_
      refine r_aload_n (pc := 103) cx dX10_journal_103 0 rfl ?_
      refine r_get (pc := 104) cx cf_X10 0 26 rfl (by decide) rfl wd_1342 dX10_journal_104 ?_
      refine r_iload_n (pc := 107) cx dX10_journal_107 3 rfl ?_
      refine r_iconst (pc := 108) cx dX10_journal_108 ic_2 ?_
      refine r_iadd (pc := 109) cx dX10_journal_109 ?_
      refine r_aload_n (pc := 110) cx dX10_journal_110 0 rfl ?_
      refine r_get (pc := 111) cx cf_X10 0 26 rfl (by decide) rfl wd_1342 dX10_journal_111 ?_
      refine r_sipush (pc := 114) cx dX10_journal_114 sp_220 ?_
      refine r_iald (pc := 117) cx 15 rfl (by decide) dX10_journal_117 ?_
      replace hf := nm_of hf
      obtain ⟨x10, ex10, hf⟩ := hf
      refine r_nm ex10 ?_
      replace hf := chk_of hf
      obtain ⟨h11, hf⟩ := hf
      replace hf := nm_of hf
      obtain ⟨f12, ef12, hf⟩ := hf
      refine r_iast (pc := 118) (ws' := [((q 0), ob 9 [.int (M_thrown v), .ref (q 1), .int (M_taped (M_tp v)), .ref (q 2), .ref (q 3), .ref (q 4), .ref (q 5), .ref (q 6), .ref (q 7), .ref (q 8), .ref (q 9), .ref (q 10), .ref (q 11), .ref (q 12), .ref (q 13), .ref (q 14), .int (M_lines (M_rd v)), .int (M_size (M_rd v)), .int (M_at (M_rd v)), .int (M_place (M_rd v)), .int (M_sort (M_rd v)), .int (M_value (M_rd v)), .int (M_fault (M_rd v)), .int (M_faultPlace (M_rd v)), .int (M_lastFault (M_lf v)), .int (M_lastPlace (M_lf v)), .ref (q 15), .ref (q 16), .ref (q 17), .ref (q 18), .int (M_hasImage (M_im v)), .int (M_spanNow (M_rn v)), .ref (q 19), .int (M_placeThen (M_rn v)), .int (M_alonePlace (M_al v)), .int (M_aloneSteps (M_al v)), .int (M_aloneOut (M_al v)), .ref (q 20), .ref (q 21), .ref (q 22), .ref (q 23), .int (M_shotAlarm (M_ex v)), .int (M_drawn (M_ex v))]), ((q 1), aI K 700 (M_tape (M_tp v))), ((q 2), aI K 20 (M_number (M_cd v))), ((q 3), aZ K 5 (M_isTold (M_rd v))), ((q 4), aI K 80 (M_codeSort (M_cd v))), ((q 5), aI K 80 (M_codeA (M_cd v))), ((q 6), aI K 80 (M_codeB (M_cd v))), ((q 7), aI K 80 (M_codeC (M_cd v))), ((q 8), aI K 80 (M_codeName (M_cd v))), ((q 9), aI K 80 (M_codePlace (M_cd v))), ((q 10), aI K 80 (M_codeTo (M_cd v))), ((q 11), aI K 280 (M_labelName (M_cd v))), ((q 12), aI K 280 (M_labelAt (M_cd v))), ((q 13), aI K 64 (M_data (M_cd v))), ((q 14), aZ K 32 (M_hasData (M_rd v))), ((q 15), aI K 314 f12), ((q 16), aI K 314 (M_aside (M_ex v))), ((q 17), aI K 314 (M_further (M_ex v))), ((q 18), aI K 314 (M_image (M_im v))), ((q 19), aI K 3 (M_sizeNow (M_rn v))), ((q 20), aI K 8 (M_aloneRegister (M_al v))), ((q 21), aI K 4 (M_aloneReal (M_al v))), ((q 22), aI K 32 (M_aloneMemory (M_al v))), ((q 23), aI K 999 (M_aloneOutput (M_al v)))]) cx 15 rfl h11 dX10_journal_118 ef12 rfl ?_
      refine r_aload_n (pc := 119) cx dX10_journal_119 0 rfl ?_
      refine r_get (pc := 120) cx cf_X10 0 26 rfl (by decide) rfl wd_1342 dX10_journal_120 ?_
      refine r_sipush (pc := 123) cx dX10_journal_123 sp_265 ?_
      refine r_dup2 (pc := 126) cx dX10_journal_126 rfl rfl ?_
      refine r_iald (pc := 127) cx 15 rfl (by decide) dX10_journal_127 ?_
      refine r_iconst (pc := 128) cx dX10_journal_128 ic_1 ?_
      refine r_iadd (pc := 129) cx dX10_journal_129 ?_
      replace hf := nm_of hf
      obtain ⟨x13, ex13, hf⟩ := hf
      refine r_nm ex13 ?_
      replace hf := nm_of hf
      obtain ⟨f14, ef14, hf⟩ := hf
      refine r_iast (pc := 130) (ws' := [((q 0), ob 9 [.int (M_thrown v), .ref (q 1), .int (M_taped (M_tp v)), .ref (q 2), .ref (q 3), .ref (q 4), .ref (q 5), .ref (q 6), .ref (q 7), .ref (q 8), .ref (q 9), .ref (q 10), .ref (q 11), .ref (q 12), .ref (q 13), .ref (q 14), .int (M_lines (M_rd v)), .int (M_size (M_rd v)), .int (M_at (M_rd v)), .int (M_place (M_rd v)), .int (M_sort (M_rd v)), .int (M_value (M_rd v)), .int (M_fault (M_rd v)), .int (M_faultPlace (M_rd v)), .int (M_lastFault (M_lf v)), .int (M_lastPlace (M_lf v)), .ref (q 15), .ref (q 16), .ref (q 17), .ref (q 18), .int (M_hasImage (M_im v)), .int (M_spanNow (M_rn v)), .ref (q 19), .int (M_placeThen (M_rn v)), .int (M_alonePlace (M_al v)), .int (M_aloneSteps (M_al v)), .int (M_aloneOut (M_al v)), .ref (q 20), .ref (q 21), .ref (q 22), .ref (q 23), .int (M_shotAlarm (M_ex v)), .int (M_drawn (M_ex v))]), ((q 1), aI K 700 (M_tape (M_tp v))), ((q 2), aI K 20 (M_number (M_cd v))), ((q 3), aZ K 5 (M_isTold (M_rd v))), ((q 4), aI K 80 (M_codeSort (M_cd v))), ((q 5), aI K 80 (M_codeA (M_cd v))), ((q 6), aI K 80 (M_codeB (M_cd v))), ((q 7), aI K 80 (M_codeC (M_cd v))), ((q 8), aI K 80 (M_codeName (M_cd v))), ((q 9), aI K 80 (M_codePlace (M_cd v))), ((q 10), aI K 80 (M_codeTo (M_cd v))), ((q 11), aI K 280 (M_labelName (M_cd v))), ((q 12), aI K 280 (M_labelAt (M_cd v))), ((q 13), aI K 64 (M_data (M_cd v))), ((q 14), aZ K 32 (M_hasData (M_rd v))), ((q 15), aI K 314 f14), ((q 16), aI K 314 (M_aside (M_ex v))), ((q 17), aI K 314 (M_further (M_ex v))), ((q 18), aI K 314 (M_image (M_im v))), ((q 19), aI K 3 (M_sizeNow (M_rn v))), ((q 20), aI K 8 (M_aloneRegister (M_al v))), ((q 21), aI K 4 (M_aloneReal (M_al v))), ((q 22), aI K 32 (M_aloneMemory (M_al v))), ((q 23), aI K 999 (M_aloneOutput (M_al v)))]) cx 15 rfl (by decide) dX10_journal_130 ef14 rfl ?_
      refine r_iload_n (pc := 131) cx dX10_journal_131 1 rfl ?_
      refine r_bipush (pc := 132) cx dX10_journal_132 bp_32 ?_
      refine r_icmp_lt (pc := 134) (tgt := 146) cx dX10_journal_134 (by decide) (fun h15 => ?_) (fun h15 => ?_)
      · replace hf := ifp h15 hf
        have hi := inj1 hf
        exact r_vret (pc := 146) cx (by rw [← hi]; (try simp only [cl_M, M_tape_mk, M_taped_mk, M_tp_mk, M_lines_mk, M_size_mk, M_at_mk, M_place_mk, M_sort_mk, M_value_mk, M_fault_mk, M_faultPlace_mk, M_isTold_mk, M_hasData_mk, M_rd_mk, M_lastFault_mk, M_lastPlace_mk, M_lf_mk, M_number_mk, M_codeSort_mk, M_codeA_mk, M_codeB_mk, M_codeC_mk, M_codeName_mk, M_codePlace_mk, M_codeTo_mk, M_labelName_mk, M_labelAt_mk, M_data_mk, M_cd_mk, M_s_mk, M_spanNow_mk, M_sizeNow_mk, M_placeThen_mk, M_rn_mk, M_aside_mk, M_further_mk, M_shotAlarm_mk, M_drawn_mk, M_ex_mk, M_image_mk, M_hasImage_mk, M_im_mk, M_alonePlace_mk, M_aloneSteps_mk, M_aloneOut_mk, M_aloneRegister_mk, M_aloneReal_mk, M_aloneMemory_mk, M_aloneOutput_mk, M_al_mk, M_thrown_mk, List.cons_append, List.nil_append, List.append_nil]) <;> rfl) dX10_journal_146
      · replace hf := ifn h15 hf
        refine r_aload_n (pc := 137) cx dX10_journal_137 0 rfl ?_
        refine r_get (pc := 138) cx cf_X10 0 26 rfl (by decide) rfl wd_1342 dX10_journal_138 ?_
        refine r_sipush (pc := 141) cx dX10_journal_141 sp_232 ?_
        refine r_iconst (pc := 144) cx dX10_journal_144 ic_1 ?_
        replace hf := nm_of hf
        obtain ⟨f16, ef16, hf⟩ := hf
        refine r_iast (pc := 145) (ws' := [((q 0), ob 9 [.int (M_thrown v), .ref (q 1), .int (M_taped (M_tp v)), .ref (q 2), .ref (q 3), .ref (q 4), .ref (q 5), .ref (q 6), .ref (q 7), .ref (q 8), .ref (q 9), .ref (q 10), .ref (q 11), .ref (q 12), .ref (q 13), .ref (q 14), .int (M_lines (M_rd v)), .int (M_size (M_rd v)), .int (M_at (M_rd v)), .int (M_place (M_rd v)), .int (M_sort (M_rd v)), .int (M_value (M_rd v)), .int (M_fault (M_rd v)), .int (M_faultPlace (M_rd v)), .int (M_lastFault (M_lf v)), .int (M_lastPlace (M_lf v)), .ref (q 15), .ref (q 16), .ref (q 17), .ref (q 18), .int (M_hasImage (M_im v)), .int (M_spanNow (M_rn v)), .ref (q 19), .int (M_placeThen (M_rn v)), .int (M_alonePlace (M_al v)), .int (M_aloneSteps (M_al v)), .int (M_aloneOut (M_al v)), .ref (q 20), .ref (q 21), .ref (q 22), .ref (q 23), .int (M_shotAlarm (M_ex v)), .int (M_drawn (M_ex v))]), ((q 1), aI K 700 (M_tape (M_tp v))), ((q 2), aI K 20 (M_number (M_cd v))), ((q 3), aZ K 5 (M_isTold (M_rd v))), ((q 4), aI K 80 (M_codeSort (M_cd v))), ((q 5), aI K 80 (M_codeA (M_cd v))), ((q 6), aI K 80 (M_codeB (M_cd v))), ((q 7), aI K 80 (M_codeC (M_cd v))), ((q 8), aI K 80 (M_codeName (M_cd v))), ((q 9), aI K 80 (M_codePlace (M_cd v))), ((q 10), aI K 80 (M_codeTo (M_cd v))), ((q 11), aI K 280 (M_labelName (M_cd v))), ((q 12), aI K 280 (M_labelAt (M_cd v))), ((q 13), aI K 64 (M_data (M_cd v))), ((q 14), aZ K 32 (M_hasData (M_rd v))), ((q 15), aI K 314 f16), ((q 16), aI K 314 (M_aside (M_ex v))), ((q 17), aI K 314 (M_further (M_ex v))), ((q 18), aI K 314 (M_image (M_im v))), ((q 19), aI K 3 (M_sizeNow (M_rn v))), ((q 20), aI K 8 (M_aloneRegister (M_al v))), ((q 21), aI K 4 (M_aloneReal (M_al v))), ((q 22), aI K 32 (M_aloneMemory (M_al v))), ((q 23), aI K 999 (M_aloneOutput (M_al v)))]) cx 15 rfl (by decide) dX10_journal_145 ef16 rfl ?_
        have hi := inj1 hf
        exact r_vret (pc := 146) cx (by rw [← hi]; (try simp only [cl_M, M_tape_mk, M_taped_mk, M_tp_mk, M_lines_mk, M_size_mk, M_at_mk, M_place_mk, M_sort_mk, M_value_mk, M_fault_mk, M_faultPlace_mk, M_isTold_mk, M_hasData_mk, M_rd_mk, M_lastFault_mk, M_lastPlace_mk, M_lf_mk, M_number_mk, M_codeSort_mk, M_codeA_mk, M_codeB_mk, M_codeC_mk, M_codeName_mk, M_codePlace_mk, M_codeTo_mk, M_labelName_mk, M_labelAt_mk, M_data_mk, M_cd_mk, M_s_mk, M_spanNow_mk, M_sizeNow_mk, M_placeThen_mk, M_rn_mk, M_aside_mk, M_further_mk, M_shotAlarm_mk, M_drawn_mk, M_ex_mk, M_image_mk, M_hasImage_mk, M_im_mk, M_alonePlace_mk, M_aloneSteps_mk, M_aloneOut_mk, M_aloneRegister_mk, M_aloneReal_mk, M_aloneMemory_mk, M_aloneOutput_mk, M_al_mk, M_thrown_mk, List.cons_append, List.nil_append, List.append_nil]) <;> rfl) dX10_journal_146
    refine r_icmp_ge (pc := 84) (tgt := 91) cx dX10_journal_84 (by decide) (fun h17 => ?_) (fun h17 => ?_)
    · replace hf := ifp h17 hf
      refine r_bipush (pc := 91) cx dX10_journal_91 bp_32 ?_
      refine r_loc (loc' := [(0, .ref (q 0)), (1, .int a1), (2, .int a2), (3, .int x3)]) [1, 2, 3, 0] rfl ?_
      exact hJ5 _ hf
    · replace hf := ifn h17 hf
      refine r_iload_n (pc := 87) cx dX10_journal_87 2 rfl ?_
      refine r_goto (pc := 88) (tgt := 93) cx dX10_journal_88 (by decide) ?_
      refine r_loc (loc' := [(0, .ref (q 0)), (1, .int a1), (2, .int a2), (3, .int x3)]) [1, 2, 3, 0] rfl ?_
      exact hJ5 _ hf
  refine r_icmp_ne (pc := 10) (tgt := 61) cx dX10_journal_10 (by decide) (fun h18 => ?_) (fun h18 => ?_)
  · replace hf := ifn h18 hf
    exact hJ2 _ hf
  · replace hf := ifp h18 hf
    refine r_iconst (pc := 13) cx dX10_journal_13 ic_0 ?_
    refine r_istore_n (pc := 14) (loc' := [(3, .int (0 : Int32)), (0, .ref (q 0)), (1, .int a1), (2, .int a2)]) cx dX10_journal_14 rfl (by decide) rfl ?_
    have hL15 : ∀ (k15_49 : (Nat → Int32) → Option (T_M)), (∀ (f21 : (Nat → Int32)), k15_49 f21 = some o_v → WW p l e rm_M_journal s m args below meth c D A 4 0 0 (MQ below (QV D K A (cl_M K q o_v)) args s 0 0 A) ([((q 0), ob 9 [.int (M_thrown v), .ref (q 1), .int (M_taped (M_tp v)), .ref (q 2), .ref (q 3), .ref (q 4), .ref (q 5), .ref (q 6), .ref (q 7), .ref (q 8), .ref (q 9), .ref (q 10), .ref (q 11), .ref (q 12), .ref (q 13), .ref (q 14), .int (M_lines (M_rd v)), .int (M_size (M_rd v)), .int (M_at (M_rd v)), .int (M_place (M_rd v)), .int (M_sort (M_rd v)), .int (M_value (M_rd v)), .int (M_fault (M_rd v)), .int (M_faultPlace (M_rd v)), .int (M_lastFault (M_lf v)), .int (M_lastPlace (M_lf v)), .ref (q 15), .ref (q 16), .ref (q 17), .ref (q 18), .int (M_hasImage (M_im v)), .int (M_spanNow (M_rn v)), .ref (q 19), .int (M_placeThen (M_rn v)), .int (M_alonePlace (M_al v)), .int (M_aloneSteps (M_al v)), .int (M_aloneOut (M_al v)), .ref (q 20), .ref (q 21), .ref (q 22), .ref (q 23), .int (M_shotAlarm (M_ex v)), .int (M_drawn (M_ex v))]), ((q 1), aI K 700 (M_tape (M_tp v))), ((q 2), aI K 20 (M_number (M_cd v))), ((q 3), aZ K 5 (M_isTold (M_rd v))), ((q 4), aI K 80 (M_codeSort (M_cd v))), ((q 5), aI K 80 (M_codeA (M_cd v))), ((q 6), aI K 80 (M_codeB (M_cd v))), ((q 7), aI K 80 (M_codeC (M_cd v))), ((q 8), aI K 80 (M_codeName (M_cd v))), ((q 9), aI K 80 (M_codePlace (M_cd v))), ((q 10), aI K 80 (M_codeTo (M_cd v))), ((q 11), aI K 280 (M_labelName (M_cd v))), ((q 12), aI K 280 (M_labelAt (M_cd v))), ((q 13), aI K 64 (M_data (M_cd v))), ((q 14), aZ K 32 (M_hasData (M_rd v))), ((q 15), aI K 314 f21), ((q 16), aI K 314 (M_aside (M_ex v))), ((q 17), aI K 314 (M_further (M_ex v))), ((q 18), aI K 314 (M_image (M_im v))), ((q 19), aI K 3 (M_sizeNow (M_rn v))), ((q 20), aI K 8 (M_aloneRegister (M_al v))), ((q 21), aI K 4 (M_aloneReal (M_al v))), ((q 22), aI K 32 (M_aloneMemory (M_al v))), ((q 23), aI K 999 (M_aloneOutput (M_al v)))]) ([(0, .ref (q 0)), (1, .int a1), (2, .int a2)]) ([]) 49) → ∀ (n15 : Nat) (x19 : Int32) (f20 : (Nat → Int32)), f_M_journal_L15 k15_49 n15 x19 f20 = some o_v → WW p l e rm_M_journal s m args below meth c D A 4 0 0 (MQ below (QV D K A (cl_M K q o_v)) args s 0 0 A) ([((q 0), ob 9 [.int (M_thrown v), .ref (q 1), .int (M_taped (M_tp v)), .ref (q 2), .ref (q 3), .ref (q 4), .ref (q 5), .ref (q 6), .ref (q 7), .ref (q 8), .ref (q 9), .ref (q 10), .ref (q 11), .ref (q 12), .ref (q 13), .ref (q 14), .int (M_lines (M_rd v)), .int (M_size (M_rd v)), .int (M_at (M_rd v)), .int (M_place (M_rd v)), .int (M_sort (M_rd v)), .int (M_value (M_rd v)), .int (M_fault (M_rd v)), .int (M_faultPlace (M_rd v)), .int (M_lastFault (M_lf v)), .int (M_lastPlace (M_lf v)), .ref (q 15), .ref (q 16), .ref (q 17), .ref (q 18), .int (M_hasImage (M_im v)), .int (M_spanNow (M_rn v)), .ref (q 19), .int (M_placeThen (M_rn v)), .int (M_alonePlace (M_al v)), .int (M_aloneSteps (M_al v)), .int (M_aloneOut (M_al v)), .ref (q 20), .ref (q 21), .ref (q 22), .ref (q 23), .int (M_shotAlarm (M_ex v)), .int (M_drawn (M_ex v))]), ((q 1), aI K 700 (M_tape (M_tp v))), ((q 2), aI K 20 (M_number (M_cd v))), ((q 3), aZ K 5 (M_isTold (M_rd v))), ((q 4), aI K 80 (M_codeSort (M_cd v))), ((q 5), aI K 80 (M_codeA (M_cd v))), ((q 6), aI K 80 (M_codeB (M_cd v))), ((q 7), aI K 80 (M_codeC (M_cd v))), ((q 8), aI K 80 (M_codeName (M_cd v))), ((q 9), aI K 80 (M_codePlace (M_cd v))), ((q 10), aI K 80 (M_codeTo (M_cd v))), ((q 11), aI K 280 (M_labelName (M_cd v))), ((q 12), aI K 280 (M_labelAt (M_cd v))), ((q 13), aI K 64 (M_data (M_cd v))), ((q 14), aZ K 32 (M_hasData (M_rd v))), ((q 15), aI K 314 f20), ((q 16), aI K 314 (M_aside (M_ex v))), ((q 17), aI K 314 (M_further (M_ex v))), ((q 18), aI K 314 (M_image (M_im v))), ((q 19), aI K 3 (M_sizeNow (M_rn v))), ((q 20), aI K 8 (M_aloneRegister (M_al v))), ((q 21), aI K 4 (M_aloneReal (M_al v))), ((q 22), aI K 32 (M_aloneMemory (M_al v))), ((q 23), aI K 999 (M_aloneOutput (M_al v)))]) ([(0, .ref (q 0)), (1, .int a1), (2, .int a2), (3, .int x19)]) ([]) 15 := by
      clear hf
      intro k15_49 hk15_49 n15
      induction n15 with
      | zero => intro x19 f20 hf; exact (nomatch (show (none : Option (T_M)) = some _ from hf))
      | succ n15 ih15 =>
        intro x19 f20 hf
        rw [f_M_journal_L15] at hf
        refine r_iload_n (pc := 15) cx dX10_journal_15 3 rfl ?_
        refine r_bipush (pc := 16) cx dX10_journal_16 bp_45 ?_
        refine r_icmp_ge (pc := 18) (tgt := 49) cx dX10_journal_18 (by decide) (fun h22 => ?_) (fun h22 => ?_)
        · replace hf := ifp h22 hf
          refine r_loc (loc' := [(0, .ref (q 0)), (1, .int a1), (2, .int a2)]) [0, 1, 2] rfl ?_
          exact hk15_49 _ hf
        · replace hf := ifn h22 hf
          refine r_aload_n (pc := 21) cx dX10_journal_21 0 rfl ?_
          refine r_get (pc := 22) cx cf_X10 0 26 rfl (by decide) rfl wd_1342 dX10_journal_22 ?_
          refine r_sipush (pc := 25) cx dX10_journal_25 sp_266 ?_
          refine r_iload_n (pc := 28) cx dX10_journal_28 3 rfl ?_
          refine r_iadd (pc := 29) cx dX10_journal_29 ?_
          refine r_aload_n (pc := 30) cx dX10_journal_30 0 rfl ?_
          refine r_get (pc := 31) cx cf_X10 0 26 rfl (by decide) rfl wd_1342 dX10_journal_31 ?_
          refine r_sipush (pc := 34) cx dX10_journal_34 sp_266 ?_
          refine r_iload_n (pc := 37) cx dX10_journal_37 3 rfl ?_
          refine r_iadd (pc := 38) cx dX10_journal_38 ?_
          refine r_iconst (pc := 39) cx dX10_journal_39 ic_3 ?_
          refine r_iadd (pc := 40) cx dX10_journal_40 ?_
          replace hf := chk_of hf
          obtain ⟨h23, hf⟩ := hf
          refine r_iald (pc := 41) cx 15 rfl h23 dX10_journal_41 ?_
          replace hf := nm_of hf
          obtain ⟨x24, ex24, hf⟩ := hf
          refine r_nm ex24 ?_
          replace hf := chk_of hf
          obtain ⟨h25, hf⟩ := hf
          replace hf := nm_of hf
          obtain ⟨f26, ef26, hf⟩ := hf
          refine r_iast (pc := 42) (ws' := [((q 0), ob 9 [.int (M_thrown v), .ref (q 1), .int (M_taped (M_tp v)), .ref (q 2), .ref (q 3), .ref (q 4), .ref (q 5), .ref (q 6), .ref (q 7), .ref (q 8), .ref (q 9), .ref (q 10), .ref (q 11), .ref (q 12), .ref (q 13), .ref (q 14), .int (M_lines (M_rd v)), .int (M_size (M_rd v)), .int (M_at (M_rd v)), .int (M_place (M_rd v)), .int (M_sort (M_rd v)), .int (M_value (M_rd v)), .int (M_fault (M_rd v)), .int (M_faultPlace (M_rd v)), .int (M_lastFault (M_lf v)), .int (M_lastPlace (M_lf v)), .ref (q 15), .ref (q 16), .ref (q 17), .ref (q 18), .int (M_hasImage (M_im v)), .int (M_spanNow (M_rn v)), .ref (q 19), .int (M_placeThen (M_rn v)), .int (M_alonePlace (M_al v)), .int (M_aloneSteps (M_al v)), .int (M_aloneOut (M_al v)), .ref (q 20), .ref (q 21), .ref (q 22), .ref (q 23), .int (M_shotAlarm (M_ex v)), .int (M_drawn (M_ex v))]), ((q 1), aI K 700 (M_tape (M_tp v))), ((q 2), aI K 20 (M_number (M_cd v))), ((q 3), aZ K 5 (M_isTold (M_rd v))), ((q 4), aI K 80 (M_codeSort (M_cd v))), ((q 5), aI K 80 (M_codeA (M_cd v))), ((q 6), aI K 80 (M_codeB (M_cd v))), ((q 7), aI K 80 (M_codeC (M_cd v))), ((q 8), aI K 80 (M_codeName (M_cd v))), ((q 9), aI K 80 (M_codePlace (M_cd v))), ((q 10), aI K 80 (M_codeTo (M_cd v))), ((q 11), aI K 280 (M_labelName (M_cd v))), ((q 12), aI K 280 (M_labelAt (M_cd v))), ((q 13), aI K 64 (M_data (M_cd v))), ((q 14), aZ K 32 (M_hasData (M_rd v))), ((q 15), aI K 314 f26), ((q 16), aI K 314 (M_aside (M_ex v))), ((q 17), aI K 314 (M_further (M_ex v))), ((q 18), aI K 314 (M_image (M_im v))), ((q 19), aI K 3 (M_sizeNow (M_rn v))), ((q 20), aI K 8 (M_aloneRegister (M_al v))), ((q 21), aI K 4 (M_aloneReal (M_al v))), ((q 22), aI K 32 (M_aloneMemory (M_al v))), ((q 23), aI K 999 (M_aloneOutput (M_al v)))]) cx 15 rfl h25 dX10_journal_42 ef26 rfl ?_
          replace hf := nm_of hf
          obtain ⟨x27, ex27, hf⟩ := hf
          refine r_iinc (pc := 43) (loc' := [(3, .int x27), (0, .ref (q 0)), (1, .int a1), (2, .int a2)]) (v := x27) cx dX10_journal_43 3 rfl ((congrArg (fun z => x19 + z) ic_1).trans ex27.symm) (by decide) rfl ?_
          refine r_goto (pc := 46) (tgt := 15) cx dX10_journal_46 (by decide) ?_
          refine r_loc (loc' := [(0, .ref (q 0)), (1, .int a1), (2, .int a2), (3, .int x27)]) [1, 2, 3, 0] rfl ?_
          exact ih15 _ _ hf
    refine r_loc (loc' := [(0, .ref (q 0)), (1, .int a1), (2, .int a2), (3, .int (0 : Int32))]) [1, 2, 3, 0] rfl ?_
    refine hL15 _ (fun f21 hf => ?_) _ _ _ hf
    refine r_aload_n (pc := 49) cx dX10_journal_49 0 rfl ?_
    refine r_get (pc := 50) cx cf_X10 0 26 rfl (by decide) rfl wd_1342 dX10_journal_50 ?_
    refine r_sipush (pc := 53) cx dX10_journal_53 sp_265 ?_
    refine r_dup2 (pc := 56) cx dX10_journal_56 rfl rfl ?_
    refine r_iald (pc := 57) cx 15 rfl (by decide) dX10_journal_57 ?_
    refine r_iconst (pc := 58) cx dX10_journal_58 ic_1 ?_
    refine r_isub (pc := 59) cx dX10_journal_59 ?_
    replace hf := nm_of hf
    obtain ⟨x28, ex28, hf⟩ := hf
    refine r_nm ex28 ?_
    replace hf := nm_of hf
    obtain ⟨f29, ef29, hf⟩ := hf
    refine r_iast (pc := 60) (ws' := [((q 0), ob 9 [.int (M_thrown v), .ref (q 1), .int (M_taped (M_tp v)), .ref (q 2), .ref (q 3), .ref (q 4), .ref (q 5), .ref (q 6), .ref (q 7), .ref (q 8), .ref (q 9), .ref (q 10), .ref (q 11), .ref (q 12), .ref (q 13), .ref (q 14), .int (M_lines (M_rd v)), .int (M_size (M_rd v)), .int (M_at (M_rd v)), .int (M_place (M_rd v)), .int (M_sort (M_rd v)), .int (M_value (M_rd v)), .int (M_fault (M_rd v)), .int (M_faultPlace (M_rd v)), .int (M_lastFault (M_lf v)), .int (M_lastPlace (M_lf v)), .ref (q 15), .ref (q 16), .ref (q 17), .ref (q 18), .int (M_hasImage (M_im v)), .int (M_spanNow (M_rn v)), .ref (q 19), .int (M_placeThen (M_rn v)), .int (M_alonePlace (M_al v)), .int (M_aloneSteps (M_al v)), .int (M_aloneOut (M_al v)), .ref (q 20), .ref (q 21), .ref (q 22), .ref (q 23), .int (M_shotAlarm (M_ex v)), .int (M_drawn (M_ex v))]), ((q 1), aI K 700 (M_tape (M_tp v))), ((q 2), aI K 20 (M_number (M_cd v))), ((q 3), aZ K 5 (M_isTold (M_rd v))), ((q 4), aI K 80 (M_codeSort (M_cd v))), ((q 5), aI K 80 (M_codeA (M_cd v))), ((q 6), aI K 80 (M_codeB (M_cd v))), ((q 7), aI K 80 (M_codeC (M_cd v))), ((q 8), aI K 80 (M_codeName (M_cd v))), ((q 9), aI K 80 (M_codePlace (M_cd v))), ((q 10), aI K 80 (M_codeTo (M_cd v))), ((q 11), aI K 280 (M_labelName (M_cd v))), ((q 12), aI K 280 (M_labelAt (M_cd v))), ((q 13), aI K 64 (M_data (M_cd v))), ((q 14), aZ K 32 (M_hasData (M_rd v))), ((q 15), aI K 314 f29), ((q 16), aI K 314 (M_aside (M_ex v))), ((q 17), aI K 314 (M_further (M_ex v))), ((q 18), aI K 314 (M_image (M_im v))), ((q 19), aI K 3 (M_sizeNow (M_rn v))), ((q 20), aI K 8 (M_aloneRegister (M_al v))), ((q 21), aI K 4 (M_aloneReal (M_al v))), ((q 22), aI K 32 (M_aloneMemory (M_al v))), ((q 23), aI K 999 (M_aloneOutput (M_al v)))]) cx 15 rfl (by decide) dX10_journal_60 ef29 rfl ?_
    exact hJ2 _ hf
theorem yv_X10_journal : YV yX10_journal cX10_journal 4 (none) 2 := ⟨⟨by decide +kernel, by decide +kernel, by decide +kernel⟩, wd_1686, wd_102, wd_1685, wd_71⟩
abbrev rm_M_leaves : Room := { frames := 1, cells := 0, slots := 0, locals := 23 }
set_option maxRecDepth 100000 in
set_option maxHeartbeats 4000000 in
theorem m_M_leaves (l : Launch) (D : va_G) (K : Nat → ClassId) (q : Nat → Nat) (v : T_M) (a1 : Int32) (a2 : Int32) {o_v : T_M} (hf : f_M_leaves v a1 a2 = some o_v) : MV l yX10_leaves cX10_leaves 4 (none) rm_M_leaves D K [.ref (q 0), .int a1, .int a2] (cl_M K q v) (cl_M K q o_v) := by
  refine MV_of (loc0 := [(0, .ref (q 0)), (1, .int a1), (2, .int a2)]) (by decide +kernel) rfl (Nat.le_of_ble_eq_true rfl) ?_
  intro p e s m args below meth c A cx
  unfold f_M_leaves at hf
  refine r_ws (ws' := [((q 0), ob 9 [.int (M_thrown v), .ref (q 1), .int (M_taped (M_tp v)), .ref (q 2), .ref (q 3), .ref (q 4), .ref (q 5), .ref (q 6), .ref (q 7), .ref (q 8), .ref (q 9), .ref (q 10), .ref (q 11), .ref (q 12), .ref (q 13), .ref (q 14), .int (M_lines (M_rd v)), .int (M_size (M_rd v)), .int (M_at (M_rd v)), .int (M_place (M_rd v)), .int (M_sort (M_rd v)), .int (M_value (M_rd v)), .int (M_fault (M_rd v)), .int (M_faultPlace (M_rd v)), .int (M_lastFault (M_lf v)), .int (M_lastPlace (M_lf v)), .ref (q 15), .ref (q 16), .ref (q 17), .ref (q 18), .int (M_hasImage (M_im v)), .int (M_spanNow (M_rn v)), .ref (q 19), .int (M_placeThen (M_rn v)), .int (M_alonePlace (M_al v)), .int (M_aloneSteps (M_al v)), .int (M_aloneOut (M_al v)), .ref (q 20), .ref (q 21), .ref (q 22), .ref (q 23), .int (M_shotAlarm (M_ex v)), .int (M_drawn (M_ex v))]), ((q 1), aI K 700 (M_tape (M_tp v))), ((q 2), aI K 20 (M_number (M_cd v))), ((q 3), aZ K 5 (M_isTold (M_rd v))), ((q 4), aI K 80 (M_codeSort (M_cd v))), ((q 5), aI K 80 (M_codeA (M_cd v))), ((q 6), aI K 80 (M_codeB (M_cd v))), ((q 7), aI K 80 (M_codeC (M_cd v))), ((q 8), aI K 80 (M_codeName (M_cd v))), ((q 9), aI K 80 (M_codePlace (M_cd v))), ((q 10), aI K 80 (M_codeTo (M_cd v))), ((q 11), aI K 280 (M_labelName (M_cd v))), ((q 12), aI K 280 (M_labelAt (M_cd v))), ((q 13), aI K 64 (M_data (M_cd v))), ((q 14), aZ K 32 (M_hasData (M_rd v))), ((q 15), aI K 314 (M_s (M_rn v))), ((q 16), aI K 314 (M_aside (M_ex v))), ((q 17), aI K 314 (M_further (M_ex v))), ((q 18), aI K 314 (M_image (M_im v))), ((q 19), aI K 3 (M_sizeNow (M_rn v))), ((q 20), aI K 8 (M_aloneRegister (M_al v))), ((q 21), aI K 4 (M_aloneReal (M_al v))), ((q 22), aI K 32 (M_aloneMemory (M_al v))), ((q 23), aI K 999 (M_aloneOutput (M_al v)))]) rfl ?_
  refine r_aload_n (pc := 0) cx dX10_leaves_0 0 rfl ?_
  refine r_iload_n (pc := 1) cx dX10_leaves_1 1 rfl ?_
  refine r_iload_n (pc := 2) cx dX10_leaves_2 2 rfl ?_
  replace hf := bd_of hf
  obtain ⟨v1, hc2, hf⟩ := hf
  refine r_Vv (pc := 3) (ws' := [((q 0), ob 9 [.int (M_thrown v1), .ref (q 1), .int (M_taped (M_tp v1)), .ref (q 2), .ref (q 3), .ref (q 4), .ref (q 5), .ref (q 6), .ref (q 7), .ref (q 8), .ref (q 9), .ref (q 10), .ref (q 11), .ref (q 12), .ref (q 13), .ref (q 14), .int (M_lines (M_rd v1)), .int (M_size (M_rd v1)), .int (M_at (M_rd v1)), .int (M_place (M_rd v1)), .int (M_sort (M_rd v1)), .int (M_value (M_rd v1)), .int (M_fault (M_rd v1)), .int (M_faultPlace (M_rd v1)), .int (M_lastFault (M_lf v1)), .int (M_lastPlace (M_lf v1)), .ref (q 15), .ref (q 16), .ref (q 17), .ref (q 18), .int (M_hasImage (M_im v1)), .int (M_spanNow (M_rn v1)), .ref (q 19), .int (M_placeThen (M_rn v1)), .int (M_alonePlace (M_al v1)), .int (M_aloneSteps (M_al v1)), .int (M_aloneOut (M_al v1)), .ref (q 20), .ref (q 21), .ref (q 22), .ref (q 23), .int (M_shotAlarm (M_ex v1)), .int (M_drawn (M_ex v1))]), ((q 1), aI K 700 (M_tape (M_tp v1))), ((q 2), aI K 20 (M_number (M_cd v1))), ((q 3), aZ K 5 (M_isTold (M_rd v1))), ((q 4), aI K 80 (M_codeSort (M_cd v1))), ((q 5), aI K 80 (M_codeA (M_cd v1))), ((q 6), aI K 80 (M_codeB (M_cd v1))), ((q 7), aI K 80 (M_codeC (M_cd v1))), ((q 8), aI K 80 (M_codeName (M_cd v1))), ((q 9), aI K 80 (M_codePlace (M_cd v1))), ((q 10), aI K 80 (M_codeTo (M_cd v1))), ((q 11), aI K 280 (M_labelName (M_cd v1))), ((q 12), aI K 280 (M_labelAt (M_cd v1))), ((q 13), aI K 64 (M_data (M_cd v1))), ((q 14), aZ K 32 (M_hasData (M_rd v1))), ((q 15), aI K 314 (M_s (M_rn v1))), ((q 16), aI K 314 (M_aside (M_ex v1))), ((q 17), aI K 314 (M_further (M_ex v1))), ((q 18), aI K 314 (M_image (M_im v1))), ((q 19), aI K 3 (M_sizeNow (M_rn v1))), ((q 20), aI K 8 (M_aloneRegister (M_al v1))), ((q 21), aI K 4 (M_aloneReal (M_al v1))), ((q 22), aI K 32 (M_aloneMemory (M_al v1))), ((q 23), aI K 999 (M_aloneOutput (M_al v1)))]) (wc := [((q 0), ob 9 [.int (M_thrown v), .ref (q 1), .int (M_taped (M_tp v)), .ref (q 2), .ref (q 3), .ref (q 4), .ref (q 5), .ref (q 6), .ref (q 7), .ref (q 8), .ref (q 9), .ref (q 10), .ref (q 11), .ref (q 12), .ref (q 13), .ref (q 14), .int (M_lines (M_rd v)), .int (M_size (M_rd v)), .int (M_at (M_rd v)), .int (M_place (M_rd v)), .int (M_sort (M_rd v)), .int (M_value (M_rd v)), .int (M_fault (M_rd v)), .int (M_faultPlace (M_rd v)), .int (M_lastFault (M_lf v)), .int (M_lastPlace (M_lf v)), .ref (q 15), .ref (q 16), .ref (q 17), .ref (q 18), .int (M_hasImage (M_im v)), .int (M_spanNow (M_rn v)), .ref (q 19), .int (M_placeThen (M_rn v)), .int (M_alonePlace (M_al v)), .int (M_aloneSteps (M_al v)), .int (M_aloneOut (M_al v)), .ref (q 20), .ref (q 21), .ref (q 22), .ref (q 23), .int (M_shotAlarm (M_ex v)), .int (M_drawn (M_ex v))]), ((q 1), aI K 700 (M_tape (M_tp v))), ((q 2), aI K 20 (M_number (M_cd v))), ((q 3), aZ K 5 (M_isTold (M_rd v))), ((q 4), aI K 80 (M_codeSort (M_cd v))), ((q 5), aI K 80 (M_codeA (M_cd v))), ((q 6), aI K 80 (M_codeB (M_cd v))), ((q 7), aI K 80 (M_codeC (M_cd v))), ((q 8), aI K 80 (M_codeName (M_cd v))), ((q 9), aI K 80 (M_codePlace (M_cd v))), ((q 10), aI K 80 (M_codeTo (M_cd v))), ((q 11), aI K 280 (M_labelName (M_cd v))), ((q 12), aI K 280 (M_labelAt (M_cd v))), ((q 13), aI K 64 (M_data (M_cd v))), ((q 14), aZ K 32 (M_hasData (M_rd v))), ((q 15), aI K 314 (M_s (M_rn v))), ((q 16), aI K 314 (M_aside (M_ex v))), ((q 17), aI K 314 (M_further (M_ex v))), ((q 18), aI K 314 (M_image (M_im v))), ((q 19), aI K 3 (M_sizeNow (M_rn v))), ((q 20), aI K 8 (M_aloneRegister (M_al v))), ((q 21), aI K 4 (M_aloneReal (M_al v))), ((q 22), aI K 32 (M_aloneMemory (M_al v))), ((q 23), aI K 999 (M_aloneOutput (M_al v)))]) (nn := 24) cx [.int a1, .int a2] [] (m_M_journal l D K q v a1 a2 hc2) rfl yv_X10_journal wd_1683 ⟨rfl, rfl⟩ (by decide) (fr_s (j := 0) rfl rfl rfl (fr_s (j := 1) rfl rfl rfl (fr_s (j := 2) rfl rfl rfl (fr_s (j := 3) rfl rfl rfl (fr_s (j := 4) rfl rfl rfl (fr_s (j := 5) rfl rfl rfl (fr_s (j := 6) rfl rfl rfl (fr_s (j := 7) rfl rfl rfl (fr_s (j := 8) rfl rfl rfl (fr_s (j := 9) rfl rfl rfl (fr_s (j := 10) rfl rfl rfl (fr_s (j := 11) rfl rfl rfl (fr_s (j := 12) rfl rfl rfl (fr_s (j := 13) rfl rfl rfl (fr_s (j := 14) rfl rfl rfl (fr_s (j := 15) rfl rfl rfl (fr_s (j := 16) rfl rfl rfl (fr_s (j := 17) rfl rfl rfl (fr_s (j := 18) rfl rfl rfl (fr_s (j := 19) rfl rfl rfl (fr_s (j := 20) rfl rfl rfl (fr_s (j := 21) rfl rfl rfl (fr_s (j := 22) rfl rfl rfl (fr_s (j := 23) rfl rfl rfl (fr_n))))))))))))))))))))))))) rfl (by decide) 0 rfl rfl rfl (Nat.le_of_ble_eq_true rfl) dX10_leaves_3 ?_
  refine r_iload_n (pc := 6) cx dX10_leaves_6 1 rfl ?_
  refine r_bipush (pc := 7) cx dX10_leaves_7 bp_32 ?_
  refine r_icmp_ge (pc := 9) (tgt := 36) cx dX10_leaves_9 (by decide) (fun h3 => ?_) (fun h3 => ?_)
  · replace hf := ifp h3 hf
    refine r_aload_n (pc := 36) cx dX10_leaves_36 0 rfl ?_
    refine r_get (pc := 37) cx cf_X10 0 26 rfl (by decide) rfl wd_1342 dX10_leaves_37 ?_
    refine r_sipush (pc := 40) cx dX10_leaves_40 sp_178 ?_
    refine r_iald (pc := 43) cx 15 rfl (by decide) dX10_leaves_43 ?_
    refine r_bipush (pc := 44) cx dX10_leaves_44 bp_40 ?_
    replace hf := nm_of hf
    obtain ⟨J5, eJ5, hf⟩ := hf
    have hJ5 : ∀ (f4 : (Nat → Int32)), J5 f4 = some o_v → WW p l e rm_M_leaves s m args below meth c D A 4 0 0 (MQ below (QV D K A (cl_M K q o_v)) args s 0 0 A) ([((q 0), ob 9 [.int (M_thrown v1), .ref (q 1), .int (M_taped (M_tp v1)), .ref (q 2), .ref (q 3), .ref (q 4), .ref (q 5), .ref (q 6), .ref (q 7), .ref (q 8), .ref (q 9), .ref (q 10), .ref (q 11), .ref (q 12), .ref (q 13), .ref (q 14), .int (M_lines (M_rd v1)), .int (M_size (M_rd v1)), .int (M_at (M_rd v1)), .int (M_place (M_rd v1)), .int (M_sort (M_rd v1)), .int (M_value (M_rd v1)), .int (M_fault (M_rd v1)), .int (M_faultPlace (M_rd v1)), .int (M_lastFault (M_lf v1)), .int (M_lastPlace (M_lf v1)), .ref (q 15), .ref (q 16), .ref (q 17), .ref (q 18), .int (M_hasImage (M_im v1)), .int (M_spanNow (M_rn v1)), .ref (q 19), .int (M_placeThen (M_rn v1)), .int (M_alonePlace (M_al v1)), .int (M_aloneSteps (M_al v1)), .int (M_aloneOut (M_al v1)), .ref (q 20), .ref (q 21), .ref (q 22), .ref (q 23), .int (M_shotAlarm (M_ex v1)), .int (M_drawn (M_ex v1))]), ((q 1), aI K 700 (M_tape (M_tp v1))), ((q 2), aI K 20 (M_number (M_cd v1))), ((q 3), aZ K 5 (M_isTold (M_rd v1))), ((q 4), aI K 80 (M_codeSort (M_cd v1))), ((q 5), aI K 80 (M_codeA (M_cd v1))), ((q 6), aI K 80 (M_codeB (M_cd v1))), ((q 7), aI K 80 (M_codeC (M_cd v1))), ((q 8), aI K 80 (M_codeName (M_cd v1))), ((q 9), aI K 80 (M_codePlace (M_cd v1))), ((q 10), aI K 80 (M_codeTo (M_cd v1))), ((q 11), aI K 280 (M_labelName (M_cd v1))), ((q 12), aI K 280 (M_labelAt (M_cd v1))), ((q 13), aI K 64 (M_data (M_cd v1))), ((q 14), aZ K 32 (M_hasData (M_rd v1))), ((q 15), aI K 314 f4), ((q 16), aI K 314 (M_aside (M_ex v1))), ((q 17), aI K 314 (M_further (M_ex v1))), ((q 18), aI K 314 (M_image (M_im v1))), ((q 19), aI K 3 (M_sizeNow (M_rn v1))), ((q 20), aI K 8 (M_aloneRegister (M_al v1))), ((q 21), aI K 4 (M_aloneReal (M_al v1))), ((q 22), aI K 32 (M_aloneMemory (M_al v1))), ((q 23), aI K 999 (M_aloneOutput (M_al v1)))]) ([(0, .ref (q 0)), (2, .int a2)]) ([]) 97 := by
      clear hf
      intro f4 hf
      rw [eJ5] at hf
      refine r_aload_n (pc := 97) cx dX10_leaves_97 0 rfl ?_
      refine r_get (pc := 98) cx cf_X10 0 26 rfl (by decide) rfl wd_1342 dX10_leaves_98 ?_
      refine r_sipush (pc := 101) cx dX10_leaves_101 sp_179 ?_
      refine r_aload_n (pc := 104) cx dX10_leaves_104 0 rfl ?_
      refine r_get (pc := 105) cx cf_X10 0 26 rfl (by decide) rfl wd_1342 dX10_leaves_105 ?_
      refine r_sipush (pc := 108) cx dX10_leaves_108 sp_178 ?_
      refine r_iald (pc := 111) cx 15 rfl (by decide) dX10_leaves_111 ?_
      refine r_iadd (pc := 112) cx dX10_leaves_112 ?_
      refine r_iload_n (pc := 113) cx dX10_leaves_113 1 rfl ?_
      replace hf := chk_of hf
      obtain ⟨h6, hf⟩ := hf
      replace hf := nm_of hf
      obtain ⟨f7, ef7, hf⟩ := hf
      refine r_iast (pc := 114) (ws' := [((q 0), ob 9 [.int (M_thrown v1), .ref (q 1), .int (M_taped (M_tp v1)), .ref (q 2), .ref (q 3), .ref (q 4), .ref (q 5), .ref (q 6), .ref (q 7), .ref (q 8), .ref (q 9), .ref (q 10), .ref (q 11), .ref (q 12), .ref (q 13), .ref (q 14), .int (M_lines (M_rd v1)), .int (M_size (M_rd v1)), .int (M_at (M_rd v1)), .int (M_place (M_rd v1)), .int (M_sort (M_rd v1)), .int (M_value (M_rd v1)), .int (M_fault (M_rd v1)), .int (M_faultPlace (M_rd v1)), .int (M_lastFault (M_lf v1)), .int (M_lastPlace (M_lf v1)), .ref (q 15), .ref (q 16), .ref (q 17), .ref (q 18), .int (M_hasImage (M_im v1)), .int (M_spanNow (M_rn v1)), .ref (q 19), .int (M_placeThen (M_rn v1)), .int (M_alonePlace (M_al v1)), .int (M_aloneSteps (M_al v1)), .int (M_aloneOut (M_al v1)), .ref (q 20), .ref (q 21), .ref (q 22), .ref (q 23), .int (M_shotAlarm (M_ex v1)), .int (M_drawn (M_ex v1))]), ((q 1), aI K 700 (M_tape (M_tp v1))), ((q 2), aI K 20 (M_number (M_cd v1))), ((q 3), aZ K 5 (M_isTold (M_rd v1))), ((q 4), aI K 80 (M_codeSort (M_cd v1))), ((q 5), aI K 80 (M_codeA (M_cd v1))), ((q 6), aI K 80 (M_codeB (M_cd v1))), ((q 7), aI K 80 (M_codeC (M_cd v1))), ((q 8), aI K 80 (M_codeName (M_cd v1))), ((q 9), aI K 80 (M_codePlace (M_cd v1))), ((q 10), aI K 80 (M_codeTo (M_cd v1))), ((q 11), aI K 280 (M_labelName (M_cd v1))), ((q 12), aI K 280 (M_labelAt (M_cd v1))), ((q 13), aI K 64 (M_data (M_cd v1))), ((q 14), aZ K 32 (M_hasData (M_rd v1))), ((q 15), aI K 314 f7), ((q 16), aI K 314 (M_aside (M_ex v1))), ((q 17), aI K 314 (M_further (M_ex v1))), ((q 18), aI K 314 (M_image (M_im v1))), ((q 19), aI K 3 (M_sizeNow (M_rn v1))), ((q 20), aI K 8 (M_aloneRegister (M_al v1))), ((q 21), aI K 4 (M_aloneReal (M_al v1))), ((q 22), aI K 32 (M_aloneMemory (M_al v1))), ((q 23), aI K 999 (M_aloneOutput (M_al v1)))]) cx 15 rfl h6 dX10_leaves_114 ef7 rfl ?_
      refine r_aload_n (pc := 115) cx dX10_leaves_115 0 rfl ?_
      refine r_get (pc := 116) cx cf_X10 0 26 rfl (by decide) rfl wd_1342 dX10_leaves_116 ?_
      refine r_sipush (pc := 119) cx dX10_leaves_119 sp_178 ?_
      refine r_dup2 (pc := 122) cx dX10_leaves_122 rfl rfl ?_
      refine r_iald (pc := 123) cx 15 rfl (by decide) dX10_leaves_123 ?_
      refine r_iconst (pc := 124) cx dX10_leaves_124 ic_1 ?_
      refine r_iadd (pc := 125) cx dX10_leaves_125 ?_
      replace hf := nm_of hf
      obtain ⟨x8, ex8, hf⟩ := hf
      refine r_nm ex8 ?_
      replace hf := nm_of hf
      obtain ⟨f9, ef9, hf⟩ := hf
      refine r_iast (pc := 126) (ws' := [((q 0), ob 9 [.int (M_thrown v1), .ref (q 1), .int (M_taped (M_tp v1)), .ref (q 2), .ref (q 3), .ref (q 4), .ref (q 5), .ref (q 6), .ref (q 7), .ref (q 8), .ref (q 9), .ref (q 10), .ref (q 11), .ref (q 12), .ref (q 13), .ref (q 14), .int (M_lines (M_rd v1)), .int (M_size (M_rd v1)), .int (M_at (M_rd v1)), .int (M_place (M_rd v1)), .int (M_sort (M_rd v1)), .int (M_value (M_rd v1)), .int (M_fault (M_rd v1)), .int (M_faultPlace (M_rd v1)), .int (M_lastFault (M_lf v1)), .int (M_lastPlace (M_lf v1)), .ref (q 15), .ref (q 16), .ref (q 17), .ref (q 18), .int (M_hasImage (M_im v1)), .int (M_spanNow (M_rn v1)), .ref (q 19), .int (M_placeThen (M_rn v1)), .int (M_alonePlace (M_al v1)), .int (M_aloneSteps (M_al v1)), .int (M_aloneOut (M_al v1)), .ref (q 20), .ref (q 21), .ref (q 22), .ref (q 23), .int (M_shotAlarm (M_ex v1)), .int (M_drawn (M_ex v1))]), ((q 1), aI K 700 (M_tape (M_tp v1))), ((q 2), aI K 20 (M_number (M_cd v1))), ((q 3), aZ K 5 (M_isTold (M_rd v1))), ((q 4), aI K 80 (M_codeSort (M_cd v1))), ((q 5), aI K 80 (M_codeA (M_cd v1))), ((q 6), aI K 80 (M_codeB (M_cd v1))), ((q 7), aI K 80 (M_codeC (M_cd v1))), ((q 8), aI K 80 (M_codeName (M_cd v1))), ((q 9), aI K 80 (M_codePlace (M_cd v1))), ((q 10), aI K 80 (M_codeTo (M_cd v1))), ((q 11), aI K 280 (M_labelName (M_cd v1))), ((q 12), aI K 280 (M_labelAt (M_cd v1))), ((q 13), aI K 64 (M_data (M_cd v1))), ((q 14), aZ K 32 (M_hasData (M_rd v1))), ((q 15), aI K 314 f9), ((q 16), aI K 314 (M_aside (M_ex v1))), ((q 17), aI K 314 (M_further (M_ex v1))), ((q 18), aI K 314 (M_image (M_im v1))), ((q 19), aI K 3 (M_sizeNow (M_rn v1))), ((q 20), aI K 8 (M_aloneRegister (M_al v1))), ((q 21), aI K 4 (M_aloneReal (M_al v1))), ((q 22), aI K 32 (M_aloneMemory (M_al v1))), ((q 23), aI K 999 (M_aloneOutput (M_al v1)))]) cx 15 rfl (by decide) dX10_leaves_126 ef9 rfl ?_
      refine r_aload_n (pc := 127) cx dX10_leaves_127 0 rfl ?_
      refine r_get (pc := 128) cx cf_X10 0 26 rfl (by decide) rfl wd_1342 dX10_leaves_128 ?_
      refine r_sipush (pc := 131) cx dX10_leaves_131 sp_225 ?_
      refine r_dup2 (pc := 134) cx dX10_leaves_134 rfl rfl ?_
      refine r_iald (pc := 135) cx 15 rfl (by decide) dX10_leaves_135 ?_
      refine r_iconst (pc := 136) cx dX10_leaves_136 ic_1 ?_
      refine r_iadd (pc := 137) cx dX10_leaves_137 ?_
      replace hf := nm_of hf
      obtain ⟨x10, ex10, hf⟩ := hf
      refine r_nm ex10 ?_
      replace hf := nm_of hf
      obtain ⟨f11, ef11, hf⟩ := hf
      refine r_iast (pc := 138) (ws' := [((q 0), ob 9 [.int (M_thrown v1), .ref (q 1), .int (M_taped (M_tp v1)), .ref (q 2), .ref (q 3), .ref (q 4), .ref (q 5), .ref (q 6), .ref (q 7), .ref (q 8), .ref (q 9), .ref (q 10), .ref (q 11), .ref (q 12), .ref (q 13), .ref (q 14), .int (M_lines (M_rd v1)), .int (M_size (M_rd v1)), .int (M_at (M_rd v1)), .int (M_place (M_rd v1)), .int (M_sort (M_rd v1)), .int (M_value (M_rd v1)), .int (M_fault (M_rd v1)), .int (M_faultPlace (M_rd v1)), .int (M_lastFault (M_lf v1)), .int (M_lastPlace (M_lf v1)), .ref (q 15), .ref (q 16), .ref (q 17), .ref (q 18), .int (M_hasImage (M_im v1)), .int (M_spanNow (M_rn v1)), .ref (q 19), .int (M_placeThen (M_rn v1)), .int (M_alonePlace (M_al v1)), .int (M_aloneSteps (M_al v1)), .int (M_aloneOut (M_al v1)), .ref (q 20), .ref (q 21), .ref (q 22), .ref (q 23), .int (M_shotAlarm (M_ex v1)), .int (M_drawn (M_ex v1))]), ((q 1), aI K 700 (M_tape (M_tp v1))), ((q 2), aI K 20 (M_number (M_cd v1))), ((q 3), aZ K 5 (M_isTold (M_rd v1))), ((q 4), aI K 80 (M_codeSort (M_cd v1))), ((q 5), aI K 80 (M_codeA (M_cd v1))), ((q 6), aI K 80 (M_codeB (M_cd v1))), ((q 7), aI K 80 (M_codeC (M_cd v1))), ((q 8), aI K 80 (M_codeName (M_cd v1))), ((q 9), aI K 80 (M_codePlace (M_cd v1))), ((q 10), aI K 80 (M_codeTo (M_cd v1))), ((q 11), aI K 280 (M_labelName (M_cd v1))), ((q 12), aI K 280 (M_labelAt (M_cd v1))), ((q 13), aI K 64 (M_data (M_cd v1))), ((q 14), aZ K 32 (M_hasData (M_rd v1))), ((q 15), aI K 314 f11), ((q 16), aI K 314 (M_aside (M_ex v1))), ((q 17), aI K 314 (M_further (M_ex v1))), ((q 18), aI K 314 (M_image (M_im v1))), ((q 19), aI K 3 (M_sizeNow (M_rn v1))), ((q 20), aI K 8 (M_aloneRegister (M_al v1))), ((q 21), aI K 4 (M_aloneReal (M_al v1))), ((q 22), aI K 32 (M_aloneMemory (M_al v1))), ((q 23), aI K 999 (M_aloneOutput (M_al v1)))]) cx 15 rfl (by decide) dX10_leaves_138 ef11 rfl ?_
      have hi := inj1 hf
      exact r_vret (pc := 139) cx (by rw [← hi]; (try simp only [cl_M, M_tape_mk, M_taped_mk, M_tp_mk, M_lines_mk, M_size_mk, M_at_mk, M_place_mk, M_sort_mk, M_value_mk, M_fault_mk, M_faultPlace_mk, M_isTold_mk, M_hasData_mk, M_rd_mk, M_lastFault_mk, M_lastPlace_mk, M_lf_mk, M_number_mk, M_codeSort_mk, M_codeA_mk, M_codeB_mk, M_codeC_mk, M_codeName_mk, M_codePlace_mk, M_codeTo_mk, M_labelName_mk, M_labelAt_mk, M_data_mk, M_cd_mk, M_s_mk, M_spanNow_mk, M_sizeNow_mk, M_placeThen_mk, M_rn_mk, M_aside_mk, M_further_mk, M_shotAlarm_mk, M_drawn_mk, M_ex_mk, M_image_mk, M_hasImage_mk, M_im_mk, M_alonePlace_mk, M_aloneSteps_mk, M_aloneOut_mk, M_aloneRegister_mk, M_aloneReal_mk, M_aloneMemory_mk, M_aloneOutput_mk, M_al_mk, M_thrown_mk, List.cons_append, List.nil_append, List.append_nil]) <;> rfl) dX10_leaves_139
    refine r_icmp_ne (pc := 46) (tgt := 97) cx dX10_leaves_46 (by decide) (fun h12 => ?_) (fun h12 => ?_)
    · replace hf := ifn h12 hf
      refine r_loc (loc' := [(0, .ref (q 0)), (2, .int a2)]) [0, 2] rfl ?_
      exact hJ5 _ hf
    · replace hf := ifp h12 hf
      refine r_iconst (pc := 49) cx dX10_leaves_49 ic_1 ?_
      refine r_istore_n (pc := 50) (loc' := [(3, .int (1 : Int32)), (0, .ref (q 0)), (1, .int a1), (2, .int a2)]) cx dX10_leaves_50 rfl (by decide) rfl ?_
      have hL51 : ∀ (k51_85 : (Nat → Int32) → Option (T_M)), (∀ (f15 : (Nat → Int32)), k51_85 f15 = some o_v → WW p l e rm_M_leaves s m args below meth c D A 4 0 0 (MQ below (QV D K A (cl_M K q o_v)) args s 0 0 A) ([((q 0), ob 9 [.int (M_thrown v1), .ref (q 1), .int (M_taped (M_tp v1)), .ref (q 2), .ref (q 3), .ref (q 4), .ref (q 5), .ref (q 6), .ref (q 7), .ref (q 8), .ref (q 9), .ref (q 10), .ref (q 11), .ref (q 12), .ref (q 13), .ref (q 14), .int (M_lines (M_rd v1)), .int (M_size (M_rd v1)), .int (M_at (M_rd v1)), .int (M_place (M_rd v1)), .int (M_sort (M_rd v1)), .int (M_value (M_rd v1)), .int (M_fault (M_rd v1)), .int (M_faultPlace (M_rd v1)), .int (M_lastFault (M_lf v1)), .int (M_lastPlace (M_lf v1)), .ref (q 15), .ref (q 16), .ref (q 17), .ref (q 18), .int (M_hasImage (M_im v1)), .int (M_spanNow (M_rn v1)), .ref (q 19), .int (M_placeThen (M_rn v1)), .int (M_alonePlace (M_al v1)), .int (M_aloneSteps (M_al v1)), .int (M_aloneOut (M_al v1)), .ref (q 20), .ref (q 21), .ref (q 22), .ref (q 23), .int (M_shotAlarm (M_ex v1)), .int (M_drawn (M_ex v1))]), ((q 1), aI K 700 (M_tape (M_tp v1))), ((q 2), aI K 20 (M_number (M_cd v1))), ((q 3), aZ K 5 (M_isTold (M_rd v1))), ((q 4), aI K 80 (M_codeSort (M_cd v1))), ((q 5), aI K 80 (M_codeA (M_cd v1))), ((q 6), aI K 80 (M_codeB (M_cd v1))), ((q 7), aI K 80 (M_codeC (M_cd v1))), ((q 8), aI K 80 (M_codeName (M_cd v1))), ((q 9), aI K 80 (M_codePlace (M_cd v1))), ((q 10), aI K 80 (M_codeTo (M_cd v1))), ((q 11), aI K 280 (M_labelName (M_cd v1))), ((q 12), aI K 280 (M_labelAt (M_cd v1))), ((q 13), aI K 64 (M_data (M_cd v1))), ((q 14), aZ K 32 (M_hasData (M_rd v1))), ((q 15), aI K 314 f15), ((q 16), aI K 314 (M_aside (M_ex v1))), ((q 17), aI K 314 (M_further (M_ex v1))), ((q 18), aI K 314 (M_image (M_im v1))), ((q 19), aI K 3 (M_sizeNow (M_rn v1))), ((q 20), aI K 8 (M_aloneRegister (M_al v1))), ((q 21), aI K 4 (M_aloneReal (M_al v1))), ((q 22), aI K 32 (M_aloneMemory (M_al v1))), ((q 23), aI K 999 (M_aloneOutput (M_al v1)))]) ([(0, .ref (q 0)), (2, .int a2)]) ([]) 85) → ∀ (n51 : Nat) (x13 : Int32) (f14 : (Nat → Int32)), f_M_leaves_L51 k51_85 n51 x13 f14 = some o_v → WW p l e rm_M_leaves s m args below meth c D A 4 0 0 (MQ below (QV D K A (cl_M K q o_v)) args s 0 0 A) ([((q 0), ob 9 [.int (M_thrown v1), .ref (q 1), .int (M_taped (M_tp v1)), .ref (q 2), .ref (q 3), .ref (q 4), .ref (q 5), .ref (q 6), .ref (q 7), .ref (q 8), .ref (q 9), .ref (q 10), .ref (q 11), .ref (q 12), .ref (q 13), .ref (q 14), .int (M_lines (M_rd v1)), .int (M_size (M_rd v1)), .int (M_at (M_rd v1)), .int (M_place (M_rd v1)), .int (M_sort (M_rd v1)), .int (M_value (M_rd v1)), .int (M_fault (M_rd v1)), .int (M_faultPlace (M_rd v1)), .int (M_lastFault (M_lf v1)), .int (M_lastPlace (M_lf v1)), .ref (q 15), .ref (q 16), .ref (q 17), .ref (q 18), .int (M_hasImage (M_im v1)), .int (M_spanNow (M_rn v1)), .ref (q 19), .int (M_placeThen (M_rn v1)), .int (M_alonePlace (M_al v1)), .int (M_aloneSteps (M_al v1)), .int (M_aloneOut (M_al v1)), .ref (q 20), .ref (q 21), .ref (q 22), .ref (q 23), .int (M_shotAlarm (M_ex v1)), .int (M_drawn (M_ex v1))]), ((q 1), aI K 700 (M_tape (M_tp v1))), ((q 2), aI K 20 (M_number (M_cd v1))), ((q 3), aZ K 5 (M_isTold (M_rd v1))), ((q 4), aI K 80 (M_codeSort (M_cd v1))), ((q 5), aI K 80 (M_codeA (M_cd v1))), ((q 6), aI K 80 (M_codeB (M_cd v1))), ((q 7), aI K 80 (M_codeC (M_cd v1))), ((q 8), aI K 80 (M_codeName (M_cd v1))), ((q 9), aI K 80 (M_codePlace (M_cd v1))), ((q 10), aI K 80 (M_codeTo (M_cd v1))), ((q 11), aI K 280 (M_labelName (M_cd v1))), ((q 12), aI K 280 (M_labelAt (M_cd v1))), ((q 13), aI K 64 (M_data (M_cd v1))), ((q 14), aZ K 32 (M_hasData (M_rd v1))), ((q 15), aI K 314 f14), ((q 16), aI K 314 (M_aside (M_ex v1))), ((q 17), aI K 314 (M_further (M_ex v1))), ((q 18), aI K 314 (M_image (M_im v1))), ((q 19), aI K 3 (M_sizeNow (M_rn v1))), ((q 20), aI K 8 (M_aloneRegister (M_al v1))), ((q 21), aI K 4 (M_aloneReal (M_al v1))), ((q 22), aI K 32 (M_aloneMemory (M_al v1))), ((q 23), aI K 999 (M_aloneOutput (M_al v1)))]) ([(0, .ref (q 0)), (2, .int a2), (3, .int x13)]) ([]) 51 := by
        clear hf
        intro k51_85 hk51_85 n51
        induction n51 with
        | zero => intro x13 f14 hf; exact (nomatch (show (none : Option (T_M)) = some _ from hf))
        | succ n51 ih51 =>
          intro x13 f14 hf
          rw [f_M_leaves_L51] at hf
          refine r_iload_n (pc := 51) cx dX10_leaves_51 2 rfl ?_
          refine r_bipush (pc := 52) cx dX10_leaves_52 bp_40 ?_
          refine r_icmp_ge (pc := 54) (tgt := 85) cx dX10_leaves_54 (by decide) (fun h16 => ?_) (fun h16 => ?_)
          · replace hf := ifp h16 hf
            refine r_loc (loc' := [(0, .ref (q 0)), (2, .int a2)]) [0, 1] rfl ?_
            exact hk51_85 _ hf
          · replace hf := ifn h16 hf
            refine r_aload_n (pc := 57) cx dX10_leaves_57 0 rfl ?_
            refine r_get (pc := 58) cx cf_X10 0 26 rfl (by decide) rfl wd_1342 dX10_leaves_58 ?_
            refine r_sipush (pc := 61) cx dX10_leaves_61 sp_179 ?_
            refine r_iload_n (pc := 64) cx dX10_leaves_64 2 rfl ?_
            refine r_iadd (pc := 65) cx dX10_leaves_65 ?_
            refine r_iconst (pc := 66) cx dX10_leaves_66 ic_1 ?_
            refine r_isub (pc := 67) cx dX10_leaves_67 ?_
            refine r_aload_n (pc := 68) cx dX10_leaves_68 0 rfl ?_
            refine r_get (pc := 69) cx cf_X10 0 26 rfl (by decide) rfl wd_1342 dX10_leaves_69 ?_
            refine r_sipush (pc := 72) cx dX10_leaves_72 sp_179 ?_
            refine r_iload_n (pc := 75) cx dX10_leaves_75 2 rfl ?_
            refine r_iadd (pc := 76) cx dX10_leaves_76 ?_
            replace hf := chk_of hf
            obtain ⟨h17, hf⟩ := hf
            refine r_iald (pc := 77) cx 15 rfl h17 dX10_leaves_77 ?_
            replace hf := nm_of hf
            obtain ⟨x18, ex18, hf⟩ := hf
            refine r_nm ex18 ?_
            replace hf := chk_of hf
            obtain ⟨h19, hf⟩ := hf
            replace hf := nm_of hf
            obtain ⟨f20, ef20, hf⟩ := hf
            refine r_iast (pc := 78) (ws' := [((q 0), ob 9 [.int (M_thrown v1), .ref (q 1), .int (M_taped (M_tp v1)), .ref (q 2), .ref (q 3), .ref (q 4), .ref (q 5), .ref (q 6), .ref (q 7), .ref (q 8), .ref (q 9), .ref (q 10), .ref (q 11), .ref (q 12), .ref (q 13), .ref (q 14), .int (M_lines (M_rd v1)), .int (M_size (M_rd v1)), .int (M_at (M_rd v1)), .int (M_place (M_rd v1)), .int (M_sort (M_rd v1)), .int (M_value (M_rd v1)), .int (M_fault (M_rd v1)), .int (M_faultPlace (M_rd v1)), .int (M_lastFault (M_lf v1)), .int (M_lastPlace (M_lf v1)), .ref (q 15), .ref (q 16), .ref (q 17), .ref (q 18), .int (M_hasImage (M_im v1)), .int (M_spanNow (M_rn v1)), .ref (q 19), .int (M_placeThen (M_rn v1)), .int (M_alonePlace (M_al v1)), .int (M_aloneSteps (M_al v1)), .int (M_aloneOut (M_al v1)), .ref (q 20), .ref (q 21), .ref (q 22), .ref (q 23), .int (M_shotAlarm (M_ex v1)), .int (M_drawn (M_ex v1))]), ((q 1), aI K 700 (M_tape (M_tp v1))), ((q 2), aI K 20 (M_number (M_cd v1))), ((q 3), aZ K 5 (M_isTold (M_rd v1))), ((q 4), aI K 80 (M_codeSort (M_cd v1))), ((q 5), aI K 80 (M_codeA (M_cd v1))), ((q 6), aI K 80 (M_codeB (M_cd v1))), ((q 7), aI K 80 (M_codeC (M_cd v1))), ((q 8), aI K 80 (M_codeName (M_cd v1))), ((q 9), aI K 80 (M_codePlace (M_cd v1))), ((q 10), aI K 80 (M_codeTo (M_cd v1))), ((q 11), aI K 280 (M_labelName (M_cd v1))), ((q 12), aI K 280 (M_labelAt (M_cd v1))), ((q 13), aI K 64 (M_data (M_cd v1))), ((q 14), aZ K 32 (M_hasData (M_rd v1))), ((q 15), aI K 314 f20), ((q 16), aI K 314 (M_aside (M_ex v1))), ((q 17), aI K 314 (M_further (M_ex v1))), ((q 18), aI K 314 (M_image (M_im v1))), ((q 19), aI K 3 (M_sizeNow (M_rn v1))), ((q 20), aI K 8 (M_aloneRegister (M_al v1))), ((q 21), aI K 4 (M_aloneReal (M_al v1))), ((q 22), aI K 32 (M_aloneMemory (M_al v1))), ((q 23), aI K 999 (M_aloneOutput (M_al v1)))]) cx 15 rfl h19 dX10_leaves_78 ef20 rfl ?_
            replace hf := nm_of hf
            obtain ⟨x21, ex21, hf⟩ := hf
            refine r_iinc (pc := 79) (loc' := [(3, .int x21), (0, .ref (q 0)), (2, .int a2)]) (v := x21) cx dX10_leaves_79 2 rfl ((congrArg (fun z => x13 + z) ic_1).trans ex21.symm) (by decide) rfl ?_
            refine r_goto (pc := 82) (tgt := 51) cx dX10_leaves_82 (by decide) ?_
            refine r_loc (loc' := [(0, .ref (q 0)), (2, .int a2), (3, .int x21)]) [1, 2, 0] rfl ?_
            exact ih51 _ _ hf
      refine r_loc (loc' := [(0, .ref (q 0)), (2, .int a2), (3, .int (1 : Int32))]) [1, 3, 0] rfl ?_
      refine hL51 _ (fun f15 hf => ?_) _ _ _ hf
      refine r_aload_n (pc := 85) cx dX10_leaves_85 0 rfl ?_
      refine r_get (pc := 86) cx cf_X10 0 26 rfl (by decide) rfl wd_1342 dX10_leaves_86 ?_
      refine r_sipush (pc := 89) cx dX10_leaves_89 sp_178 ?_
      refine r_dup2 (pc := 92) cx dX10_leaves_92 rfl rfl ?_
      refine r_iald (pc := 93) cx 15 rfl (by decide) dX10_leaves_93 ?_
      refine r_iconst (pc := 94) cx dX10_leaves_94 ic_1 ?_
      refine r_isub (pc := 95) cx dX10_leaves_95 ?_
      replace hf := nm_of hf
      obtain ⟨x22, ex22, hf⟩ := hf
      refine r_nm ex22 ?_
      replace hf := nm_of hf
      obtain ⟨f23, ef23, hf⟩ := hf
      refine r_iast (pc := 96) (ws' := [((q 0), ob 9 [.int (M_thrown v1), .ref (q 1), .int (M_taped (M_tp v1)), .ref (q 2), .ref (q 3), .ref (q 4), .ref (q 5), .ref (q 6), .ref (q 7), .ref (q 8), .ref (q 9), .ref (q 10), .ref (q 11), .ref (q 12), .ref (q 13), .ref (q 14), .int (M_lines (M_rd v1)), .int (M_size (M_rd v1)), .int (M_at (M_rd v1)), .int (M_place (M_rd v1)), .int (M_sort (M_rd v1)), .int (M_value (M_rd v1)), .int (M_fault (M_rd v1)), .int (M_faultPlace (M_rd v1)), .int (M_lastFault (M_lf v1)), .int (M_lastPlace (M_lf v1)), .ref (q 15), .ref (q 16), .ref (q 17), .ref (q 18), .int (M_hasImage (M_im v1)), .int (M_spanNow (M_rn v1)), .ref (q 19), .int (M_placeThen (M_rn v1)), .int (M_alonePlace (M_al v1)), .int (M_aloneSteps (M_al v1)), .int (M_aloneOut (M_al v1)), .ref (q 20), .ref (q 21), .ref (q 22), .ref (q 23), .int (M_shotAlarm (M_ex v1)), .int (M_drawn (M_ex v1))]), ((q 1), aI K 700 (M_tape (M_tp v1))), ((q 2), aI K 20 (M_number (M_cd v1))), ((q 3), aZ K 5 (M_isTold (M_rd v1))), ((q 4), aI K 80 (M_codeSort (M_cd v1))), ((q 5), aI K 80 (M_codeA (M_cd v1))), ((q 6), aI K 80 (M_codeB (M_cd v1))), ((q 7), aI K 80 (M_codeC (M_cd v1))), ((q 8), aI K 80 (M_codeName (M_cd v1))), ((q 9), aI K 80 (M_codePlace (M_cd v1))), ((q 10), aI K 80 (M_codeTo (M_cd v1))), ((q 11), aI K 280 (M_labelName (M_cd v1))), ((q 12), aI K 280 (M_labelAt (M_cd v1))), ((q 13), aI K 64 (M_data (M_cd v1))), ((q 14), aZ K 32 (M_hasData (M_rd v1))), ((q 15), aI K 314 f23), ((q 16), aI K 314 (M_aside (M_ex v1))), ((q 17), aI K 314 (M_further (M_ex v1))), ((q 18), aI K 314 (M_image (M_im v1))), ((q 19), aI K 3 (M_sizeNow (M_rn v1))), ((q 20), aI K 8 (M_aloneRegister (M_al v1))), ((q 21), aI K 4 (M_aloneReal (M_al v1))), ((q 22), aI K 32 (M_aloneMemory (M_al v1))), ((q 23), aI K 999 (M_aloneOutput (M_al v1)))]) cx 15 rfl (by decide) dX10_leaves_96 ef23 rfl ?_
      exact hJ5 _ hf
  · replace hf := ifn h3 hf
    refine r_aload_n (pc := 12) cx dX10_leaves_12 0 rfl ?_
    refine r_get (pc := 13) cx cf_X10 0 26 rfl (by decide) rfl wd_1342 dX10_leaves_13 ?_
    refine r_sipush (pc := 16) cx dX10_leaves_16 sp_146 ?_
    refine r_iload_n (pc := 19) cx dX10_leaves_19 1 rfl ?_
    refine r_iadd (pc := 20) cx dX10_leaves_20 ?_
    refine r_iload_n (pc := 21) cx dX10_leaves_21 2 rfl ?_
    replace hf := chk_of hf
    obtain ⟨h24, hf⟩ := hf
    replace hf := nm_of hf
    obtain ⟨f25, ef25, hf⟩ := hf
    refine r_iast (pc := 22) (ws' := [((q 0), ob 9 [.int (M_thrown v1), .ref (q 1), .int (M_taped (M_tp v1)), .ref (q 2), .ref (q 3), .ref (q 4), .ref (q 5), .ref (q 6), .ref (q 7), .ref (q 8), .ref (q 9), .ref (q 10), .ref (q 11), .ref (q 12), .ref (q 13), .ref (q 14), .int (M_lines (M_rd v1)), .int (M_size (M_rd v1)), .int (M_at (M_rd v1)), .int (M_place (M_rd v1)), .int (M_sort (M_rd v1)), .int (M_value (M_rd v1)), .int (M_fault (M_rd v1)), .int (M_faultPlace (M_rd v1)), .int (M_lastFault (M_lf v1)), .int (M_lastPlace (M_lf v1)), .ref (q 15), .ref (q 16), .ref (q 17), .ref (q 18), .int (M_hasImage (M_im v1)), .int (M_spanNow (M_rn v1)), .ref (q 19), .int (M_placeThen (M_rn v1)), .int (M_alonePlace (M_al v1)), .int (M_aloneSteps (M_al v1)), .int (M_aloneOut (M_al v1)), .ref (q 20), .ref (q 21), .ref (q 22), .ref (q 23), .int (M_shotAlarm (M_ex v1)), .int (M_drawn (M_ex v1))]), ((q 1), aI K 700 (M_tape (M_tp v1))), ((q 2), aI K 20 (M_number (M_cd v1))), ((q 3), aZ K 5 (M_isTold (M_rd v1))), ((q 4), aI K 80 (M_codeSort (M_cd v1))), ((q 5), aI K 80 (M_codeA (M_cd v1))), ((q 6), aI K 80 (M_codeB (M_cd v1))), ((q 7), aI K 80 (M_codeC (M_cd v1))), ((q 8), aI K 80 (M_codeName (M_cd v1))), ((q 9), aI K 80 (M_codePlace (M_cd v1))), ((q 10), aI K 80 (M_codeTo (M_cd v1))), ((q 11), aI K 280 (M_labelName (M_cd v1))), ((q 12), aI K 280 (M_labelAt (M_cd v1))), ((q 13), aI K 64 (M_data (M_cd v1))), ((q 14), aZ K 32 (M_hasData (M_rd v1))), ((q 15), aI K 314 f25), ((q 16), aI K 314 (M_aside (M_ex v1))), ((q 17), aI K 314 (M_further (M_ex v1))), ((q 18), aI K 314 (M_image (M_im v1))), ((q 19), aI K 3 (M_sizeNow (M_rn v1))), ((q 20), aI K 8 (M_aloneRegister (M_al v1))), ((q 21), aI K 4 (M_aloneReal (M_al v1))), ((q 22), aI K 32 (M_aloneMemory (M_al v1))), ((q 23), aI K 999 (M_aloneOutput (M_al v1)))]) cx 15 rfl h24 dX10_leaves_22 ef25 rfl ?_
    refine r_aload_n (pc := 23) cx dX10_leaves_23 0 rfl ?_
    refine r_get (pc := 24) cx cf_X10 0 26 rfl (by decide) rfl wd_1342 dX10_leaves_24 ?_
    refine r_sipush (pc := 27) cx dX10_leaves_27 sp_224 ?_
    refine r_dup2 (pc := 30) cx dX10_leaves_30 rfl rfl ?_
    refine r_iald (pc := 31) cx 15 rfl (by decide) dX10_leaves_31 ?_
    refine r_iconst (pc := 32) cx dX10_leaves_32 ic_1 ?_
    refine r_iadd (pc := 33) cx dX10_leaves_33 ?_
    replace hf := nm_of hf
    obtain ⟨x26, ex26, hf⟩ := hf
    refine r_nm ex26 ?_
    replace hf := nm_of hf
    obtain ⟨f27, ef27, hf⟩ := hf
    refine r_iast (pc := 34) (ws' := [((q 0), ob 9 [.int (M_thrown v1), .ref (q 1), .int (M_taped (M_tp v1)), .ref (q 2), .ref (q 3), .ref (q 4), .ref (q 5), .ref (q 6), .ref (q 7), .ref (q 8), .ref (q 9), .ref (q 10), .ref (q 11), .ref (q 12), .ref (q 13), .ref (q 14), .int (M_lines (M_rd v1)), .int (M_size (M_rd v1)), .int (M_at (M_rd v1)), .int (M_place (M_rd v1)), .int (M_sort (M_rd v1)), .int (M_value (M_rd v1)), .int (M_fault (M_rd v1)), .int (M_faultPlace (M_rd v1)), .int (M_lastFault (M_lf v1)), .int (M_lastPlace (M_lf v1)), .ref (q 15), .ref (q 16), .ref (q 17), .ref (q 18), .int (M_hasImage (M_im v1)), .int (M_spanNow (M_rn v1)), .ref (q 19), .int (M_placeThen (M_rn v1)), .int (M_alonePlace (M_al v1)), .int (M_aloneSteps (M_al v1)), .int (M_aloneOut (M_al v1)), .ref (q 20), .ref (q 21), .ref (q 22), .ref (q 23), .int (M_shotAlarm (M_ex v1)), .int (M_drawn (M_ex v1))]), ((q 1), aI K 700 (M_tape (M_tp v1))), ((q 2), aI K 20 (M_number (M_cd v1))), ((q 3), aZ K 5 (M_isTold (M_rd v1))), ((q 4), aI K 80 (M_codeSort (M_cd v1))), ((q 5), aI K 80 (M_codeA (M_cd v1))), ((q 6), aI K 80 (M_codeB (M_cd v1))), ((q 7), aI K 80 (M_codeC (M_cd v1))), ((q 8), aI K 80 (M_codeName (M_cd v1))), ((q 9), aI K 80 (M_codePlace (M_cd v1))), ((q 10), aI K 80 (M_codeTo (M_cd v1))), ((q 11), aI K 280 (M_labelName (M_cd v1))), ((q 12), aI K 280 (M_labelAt (M_cd v1))), ((q 13), aI K 64 (M_data (M_cd v1))), ((q 14), aZ K 32 (M_hasData (M_rd v1))), ((q 15), aI K 314 f27), ((q 16), aI K 314 (M_aside (M_ex v1))), ((q 17), aI K 314 (M_further (M_ex v1))), ((q 18), aI K 314 (M_image (M_im v1))), ((q 19), aI K 3 (M_sizeNow (M_rn v1))), ((q 20), aI K 8 (M_aloneRegister (M_al v1))), ((q 21), aI K 4 (M_aloneReal (M_al v1))), ((q 22), aI K 32 (M_aloneMemory (M_al v1))), ((q 23), aI K 999 (M_aloneOutput (M_al v1)))]) cx 15 rfl (by decide) dX10_leaves_34 ef27 rfl ?_
    have hi := inj1 hf
    exact r_vret (pc := 35) cx (by rw [← hi]; (try simp only [cl_M, M_tape_mk, M_taped_mk, M_tp_mk, M_lines_mk, M_size_mk, M_at_mk, M_place_mk, M_sort_mk, M_value_mk, M_fault_mk, M_faultPlace_mk, M_isTold_mk, M_hasData_mk, M_rd_mk, M_lastFault_mk, M_lastPlace_mk, M_lf_mk, M_number_mk, M_codeSort_mk, M_codeA_mk, M_codeB_mk, M_codeC_mk, M_codeName_mk, M_codePlace_mk, M_codeTo_mk, M_labelName_mk, M_labelAt_mk, M_data_mk, M_cd_mk, M_s_mk, M_spanNow_mk, M_sizeNow_mk, M_placeThen_mk, M_rn_mk, M_aside_mk, M_further_mk, M_shotAlarm_mk, M_drawn_mk, M_ex_mk, M_image_mk, M_hasImage_mk, M_im_mk, M_alonePlace_mk, M_aloneSteps_mk, M_aloneOut_mk, M_aloneRegister_mk, M_aloneReal_mk, M_aloneMemory_mk, M_aloneOutput_mk, M_al_mk, M_thrown_mk, List.cons_append, List.nil_append, List.append_nil]) <;> rfl) dX10_leaves_35
theorem yv_X10_leaves : YV yX10_leaves cX10_leaves 4 (none) 2 := ⟨⟨by decide +kernel, by decide +kernel, by decide +kernel⟩, wd_1682, wd_102, wd_1681, wd_70⟩
