abbrev rm_M_addressOf : Room := { frames := 0, cells := 0, slots := 0, locals := 0 }
set_option maxRecDepth 100000 in
set_option maxHeartbeats 4000000 in
theorem m_M_addressOf (l : Launch) (D : va_G) (K : Nat → ClassId) (q : Nat → Nat) (v : T_M) (a1 : Int32) (a2 : Int32) {r_ : Int32} (hf : f_M_addressOf v a1 a2 = some r_) : MI l yX10_addressOf cX10_addressOf 3 (some .int) rm_M_addressOf D K [.ref (q 0), .int a1, .int a2] (cl_M K q v) r_ (cl_M K q v) := by
  refine MI_of (loc0 := [(0, .ref (q 0)), (1, .int a1), (2, .int a2)]) (by decide +kernel) rfl (Nat.le_of_ble_eq_true rfl) ?_
  intro p e s m args below meth c A cx
  unfold f_M_addressOf at hf
  refine r_ws (ws' := [((q 0), ob 9 [.int (M_thrown v), .ref (q 1), .int (M_taped (M_tp v)), .ref (q 2), .ref (q 3), .ref (q 4), .ref (q 5), .ref (q 6), .ref (q 7), .ref (q 8), .ref (q 9), .ref (q 10), .ref (q 11), .ref (q 12), .ref (q 13), .ref (q 14), .int (M_lines (M_rd v)), .int (M_size (M_rd v)), .int (M_at (M_rd v)), .int (M_place (M_rd v)), .int (M_sort (M_rd v)), .int (M_value (M_rd v)), .int (M_fault (M_rd v)), .int (M_faultPlace (M_rd v)), .int (M_lastFault (M_lf v)), .int (M_lastPlace (M_lf v)), .ref (q 15), .ref (q 16), .ref (q 17), .ref (q 18), .int (M_hasImage (M_im v)), .int (M_spanNow (M_rn v)), .ref (q 19), .int (M_placeThen (M_rn v)), .int (M_alonePlace (M_al v)), .int (M_aloneSteps (M_al v)), .int (M_aloneOut (M_al v)), .ref (q 20), .ref (q 21), .ref (q 22), .ref (q 23), .int (M_shotAlarm (M_ex v)), .int (M_drawn (M_ex v))]), ((q 1), aI K 700 (M_tape (M_tp v))), ((q 2), aI K 20 (M_number (M_cd v))), ((q 3), aZ K 5 (M_isTold (M_rd v))), ((q 4), aI K 80 (M_codeSort (M_cd v))), ((q 5), aI K 80 (M_codeA (M_cd v))), ((q 6), aI K 80 (M_codeB (M_cd v))), ((q 7), aI K 80 (M_codeC (M_cd v))), ((q 8), aI K 80 (M_codeName (M_cd v))), ((q 9), aI K 80 (M_codePlace (M_cd v))), ((q 10), aI K 80 (M_codeTo (M_cd v))), ((q 11), aI K 280 (M_labelName (M_cd v))), ((q 12), aI K 280 (M_labelAt (M_cd v))), ((q 13), aI K 64 (M_data (M_cd v))), ((q 14), aZ K 32 (M_hasData (M_rd v))), ((q 15), aI K 314 (M_s (M_rn v))), ((q 16), aI K 314 (M_aside (M_ex v))), ((q 17), aI K 314 (M_further (M_ex v))), ((q 18), aI K 314 (M_image (M_im v))), ((q 19), aI K 3 (M_sizeNow (M_rn v))), ((q 20), aI K 8 (M_aloneRegister (M_al v))), ((q 21), aI K 4 (M_aloneReal (M_al v))), ((q 22), aI K 32 (M_aloneMemory (M_al v))), ((q 23), aI K 999 (M_aloneOutput (M_al v)))]) rfl ?_
  refine r_aload_n (pc := 0) cx dX10_addressOf_0 0 rfl ?_
  refine r_get (pc := 1) cx cf_X10 0 26 rfl (by decide) rfl wd_1342 dX10_addressOf_1 ?_
  refine r_iconst (pc := 4) cx dX10_addressOf_4 ic_4 ?_
  refine r_bipush (pc := 5) cx dX10_addressOf_5 bp_8 ?_
  refine r_iload_n (pc := 7) cx dX10_addressOf_7 1 rfl ?_
  refine r_imul (pc := 8) cx dX10_addressOf_8 ?_
  refine r_iadd (pc := 9) cx dX10_addressOf_9 ?_
  refine r_aload_n (pc := 10) cx dX10_addressOf_10 0 rfl ?_
  refine r_get (pc := 11) cx cf_X10 0 7 rfl (by decide) rfl wd_1323 dX10_addressOf_11 ?_
  refine r_iload_n (pc := 14) cx dX10_addressOf_14 2 rfl ?_
  replace hf := chk_of hf
  obtain ⟨h1, hf⟩ := hf
  refine r_iald (pc := 15) cx 6 rfl h1 dX10_addressOf_15 ?_
  refine r_iadd (pc := 16) cx dX10_addressOf_16 ?_
  replace hf := nm_of hf
  obtain ⟨x2, ex2, hf⟩ := hf
  refine r_nm ex2 ?_
  replace hf := chk_of hf
  obtain ⟨h3, hf⟩ := hf
  refine r_iald (pc := 17) cx 15 rfl h3 dX10_addressOf_17 ?_
  refine r_aload_n (pc := 18) cx dX10_addressOf_18 0 rfl ?_
  refine r_get (pc := 19) cx cf_X10 0 8 rfl (by decide) rfl wd_1324 dX10_addressOf_19 ?_
  refine r_iload_n (pc := 22) cx dX10_addressOf_22 2 rfl ?_
  replace hf := chk_of hf
  obtain ⟨h4, hf⟩ := hf
  refine r_iald (pc := 23) cx 7 rfl h4 dX10_addressOf_23 ?_
  refine r_iadd (pc := 24) cx dX10_addressOf_24 ?_
  refine r_bipush (pc := 25) cx dX10_addressOf_25 bp_31 ?_
  refine r_iand (pc := 27) cx dX10_addressOf_27 ?_
  have hi := inj1 hf
  exact r_iret (pc := 28) cx hi rfl dX10_addressOf_28
theorem yv_X10_addressOf : YV yX10_addressOf cX10_addressOf 3 (some .int) 2 := ⟨⟨by decide +kernel, by decide +kernel, by decide +kernel⟩, wd_1614, wd_102, wd_1613, wd_62⟩
abbrev rm_M_goesBy : Room := { frames := 2, cells := 0, slots := 0, locals := 54 }
set_option maxRecDepth 100000 in
set_option maxHeartbeats 4000000 in
theorem m_M_goesBy (l : Launch) (D : va_G) (K : Nat → ClassId) (a0 : Int32) (a1 : Int32) (a2 : Int32) (a3 : Int32) (a4 : Int32) {r_ : Int32} (hf : f_M_goesBy a0 a1 a2 a3 a4 = some r_) : MI l yX10_goesBy cX10_goesBy 5 (some .boolean) rm_M_goesBy D K [.int a0, .int a1, .int a2, .int a3, .int a4] ([]) r_ ([]) := by
  refine MI_of (loc0 := [(0, .int a0), (1, .int a1), (2, .int a2), (3, .int a3), (4, .int a4)]) (by decide +kernel) rfl (Nat.le_of_ble_eq_true rfl) ?_
  intro p e s m args below meth c A cx
  unfold f_M_goesBy at hf
  refine r_ws (ws' := []) rfl ?_
  refine r_iload_n (pc := 0) cx dX10_goesBy_0 0 rfl ?_
  refine r_bipush (pc := 1) cx dX10_goesBy_1 bp_21 ?_
  refine r_icmp_ne (pc := 3) (tgt := 16) cx dX10_goesBy_3 (by decide) (fun h1 => ?_) (fun h1 => ?_)
  · replace hf := ifn h1 hf
    refine r_iload_n (pc := 16) cx dX10_goesBy_16 0 rfl ?_
    refine r_bipush (pc := 17) cx dX10_goesBy_17 bp_22 ?_
    refine r_icmp_ne (pc := 19) (tgt := 33) cx dX10_goesBy_19 (by decide) (fun h2 => ?_) (fun h2 => ?_)
    · replace hf := ifn h2 hf
      refine r_iload_n (pc := 33) cx dX10_goesBy_33 3 rfl ?_
      replace hf := bd_of hf
      obtain ⟨r3, hc4, hf⟩ := hf
      refine r_Si (pc := 34) (ws' := []) (wc := []) (nn := 0) cx [.int a3] [] (m_M_isLost l D K a3 hc4) rfl ys_X10_isLost wd_1643 ⟨rfl, rfl⟩ (by decide) (fr_n) rfl (by decide) rfl (Nat.le_of_ble_eq_true rfl) dX10_goesBy_34 ?_
      refine r_if_ne (pc := 37) (tgt := 65) cx dX10_goesBy_37 (by decide) (fun h5 => ?_) (fun h5 => ?_)
      · replace hf := ifn h5 hf
        refine r_iconst (pc := 65) cx dX10_goesBy_65 ic_0 ?_
        have hi := inj1 hf
        exact r_zret (pc := 66) cx (Or.inl rfl) hi rfl dX10_goesBy_66
      · replace hf := ifp h5 hf
        refine r_iload (pc := 40) cx dX10_goesBy_40 4 rfl ?_
        replace hf := bd_of hf
        obtain ⟨r6, hc7, hf⟩ := hf
        refine r_Si (pc := 42) (ws' := []) (wc := []) (nn := 0) cx [.int a4] [] (m_M_isLost l D K a4 hc7) rfl ys_X10_isLost wd_1643 ⟨rfl, rfl⟩ (by decide) (fr_n) rfl (by decide) rfl (Nat.le_of_ble_eq_true rfl) dX10_goesBy_42 ?_
        refine r_if_ne (pc := 45) (tgt := 65) cx dX10_goesBy_45 (by decide) (fun h8 => ?_) (fun h8 => ?_)
        · replace hf := ifn h8 hf
          refine r_iconst (pc := 65) cx dX10_goesBy_65 ic_0 ?_
          have hi := inj1 hf
          exact r_zret (pc := 66) cx (Or.inl rfl) hi rfl dX10_goesBy_66
        · replace hf := ifp h8 hf
          refine r_iload_n (pc := 48) cx dX10_goesBy_48 3 rfl ?_
          replace hf := bd_of hf
          obtain ⟨r9, hc10, hf⟩ := hf
          refine r_Sd (pc := 49) (ws' := []) (wc := []) (nn := 0) cx [.int a3] [] (m_M_worth l D K a3 hc10) rfl ys_X10_worth wd_1647 ⟨rfl, rfl⟩ (by decide) (fr_n) rfl (by decide) rfl (Nat.le_of_ble_eq_true rfl) dX10_goesBy_49 ?_
          refine r_iload (pc := 52) cx dX10_goesBy_52 4 rfl ?_
          replace hf := bd_of hf
          obtain ⟨r11, hc12, hf⟩ := hf
          refine r_Sd (pc := 54) (ws' := []) (wc := []) (nn := 0) cx [.int a4] [.double r9] (m_M_worth l D K a4 hc12) rfl ys_X10_worth wd_1647 ⟨rfl, rfl⟩ (by decide) (fr_n) rfl (by decide) rfl (Nat.le_of_ble_eq_true rfl) dX10_goesBy_54 ?_
          refine r_dcmpg (pc := 57) cx dX10_goesBy_57 ?_
          refine r_if_ge (pc := 58) (tgt := 65) cx dX10_goesBy_58 (by decide) (fun h13 => ?_) (fun h13 => ?_)
          · replace hf := ifp h13 hf
            refine r_iconst (pc := 65) cx dX10_goesBy_65 ic_0 ?_
            have hi := inj1 hf
            exact r_zret (pc := 66) cx (Or.inl rfl) hi rfl dX10_goesBy_66
          · replace hf := ifn h13 hf
            refine r_iconst (pc := 61) cx dX10_goesBy_61 ic_1 ?_
            refine r_goto (pc := 62) (tgt := 66) cx dX10_goesBy_62 (by decide) ?_
            have hi := inj1 hf
            exact r_zret (pc := 66) cx (Or.inr rfl) hi rfl dX10_goesBy_66
    · replace hf := ifp h2 hf
      refine r_iload_n (pc := 22) cx dX10_goesBy_22 1 rfl ?_
      refine r_iload_n (pc := 23) cx dX10_goesBy_23 2 rfl ?_
      refine r_icmp_ge (pc := 24) (tgt := 31) cx dX10_goesBy_24 (by decide) (fun h14 => ?_) (fun h14 => ?_)
      · replace hf := ifp h14 hf
        refine r_iconst (pc := 31) cx dX10_goesBy_31 ic_0 ?_
        have hi := inj1 hf
        exact r_zret (pc := 32) cx (Or.inl rfl) hi rfl dX10_goesBy_32
      · replace hf := ifn h14 hf
        refine r_iconst (pc := 27) cx dX10_goesBy_27 ic_1 ?_
        refine r_goto (pc := 28) (tgt := 32) cx dX10_goesBy_28 (by decide) ?_
        have hi := inj1 hf
        exact r_zret (pc := 32) cx (Or.inr rfl) hi rfl dX10_goesBy_32
  · replace hf := ifp h1 hf
    refine r_iload_n (pc := 6) cx dX10_goesBy_6 1 rfl ?_
    refine r_if_ne (pc := 7) (tgt := 14) cx dX10_goesBy_7 (by decide) (fun h15 => ?_) (fun h15 => ?_)
    · replace hf := ifn h15 hf
      refine r_iconst (pc := 14) cx dX10_goesBy_14 ic_0 ?_
      have hi := inj1 hf
      exact r_zret (pc := 15) cx (Or.inl rfl) hi rfl dX10_goesBy_15
    · replace hf := ifp h15 hf
      refine r_iconst (pc := 10) cx dX10_goesBy_10 ic_1 ?_
      refine r_goto (pc := 11) (tgt := 15) cx dX10_goesBy_11 (by decide) ?_
      have hi := inj1 hf
      exact r_zret (pc := 15) cx (Or.inr rfl) hi rfl dX10_goesBy_15
theorem ys_X10_goesBy : YS yX10_goesBy cX10_goesBy 5 (some .boolean) 5 := ⟨⟨by decide +kernel, by decide +kernel, by decide +kernel⟩, wd_1662, wd_102, wd_1661⟩
abbrev rm_M_branches : Room := { frames := 0, cells := 0, slots := 0, locals := 0 }
set_option maxRecDepth 100000 in
set_option maxHeartbeats 4000000 in
theorem m_M_branches (l : Launch) (D : va_G) (K : Nat → ClassId) (q : Nat → Nat) (v : T_M) (a1 : Int32) (a2 : Int32) (a3 : Int32) {r_ : Int32} {o_v : T_M} (hf : f_M_branches v a1 a2 a3 = some (r_, o_v)) : MI l yX10_branches cX10_branches 6 (some .int) rm_M_branches D K [.ref (q 0), .int a1, .int a2, .int a3] (cl_M K q v) r_ (cl_M K q o_v) := by
  refine MI_of (loc0 := [(0, .ref (q 0)), (1, .int a1), (2, .int a2), (3, .int a3)]) (by decide +kernel) rfl (Nat.le_of_ble_eq_true rfl) ?_
  intro p e s m args below meth c A cx
  unfold f_M_branches at hf
  refine r_ws (ws' := [((q 0), ob 9 [.int (M_thrown v), .ref (q 1), .int (M_taped (M_tp v)), .ref (q 2), .ref (q 3), .ref (q 4), .ref (q 5), .ref (q 6), .ref (q 7), .ref (q 8), .ref (q 9), .ref (q 10), .ref (q 11), .ref (q 12), .ref (q 13), .ref (q 14), .int (M_lines (M_rd v)), .int (M_size (M_rd v)), .int (M_at (M_rd v)), .int (M_place (M_rd v)), .int (M_sort (M_rd v)), .int (M_value (M_rd v)), .int (M_fault (M_rd v)), .int (M_faultPlace (M_rd v)), .int (M_lastFault (M_lf v)), .int (M_lastPlace (M_lf v)), .ref (q 15), .ref (q 16), .ref (q 17), .ref (q 18), .int (M_hasImage (M_im v)), .int (M_spanNow (M_rn v)), .ref (q 19), .int (M_placeThen (M_rn v)), .int (M_alonePlace (M_al v)), .int (M_aloneSteps (M_al v)), .int (M_aloneOut (M_al v)), .ref (q 20), .ref (q 21), .ref (q 22), .ref (q 23), .int (M_shotAlarm (M_ex v)), .int (M_drawn (M_ex v))]), ((q 1), aI K 700 (M_tape (M_tp v))), ((q 2), aI K 20 (M_number (M_cd v))), ((q 3), aZ K 5 (M_isTold (M_rd v))), ((q 4), aI K 80 (M_codeSort (M_cd v))), ((q 5), aI K 80 (M_codeA (M_cd v))), ((q 6), aI K 80 (M_codeB (M_cd v))), ((q 7), aI K 80 (M_codeC (M_cd v))), ((q 8), aI K 80 (M_codeName (M_cd v))), ((q 9), aI K 80 (M_codePlace (M_cd v))), ((q 10), aI K 80 (M_codeTo (M_cd v))), ((q 11), aI K 280 (M_labelName (M_cd v))), ((q 12), aI K 280 (M_labelAt (M_cd v))), ((q 13), aI K 64 (M_data (M_cd v))), ((q 14), aZ K 32 (M_hasData (M_rd v))), ((q 15), aI K 314 (M_s (M_rn v))), ((q 16), aI K 314 (M_aside (M_ex v))), ((q 17), aI K 314 (M_further (M_ex v))), ((q 18), aI K 314 (M_image (M_im v))), ((q 19), aI K 3 (M_sizeNow (M_rn v))), ((q 20), aI K 8 (M_aloneRegister (M_al v))), ((q 21), aI K 4 (M_aloneReal (M_al v))), ((q 22), aI K 32 (M_aloneMemory (M_al v))), ((q 23), aI K 999 (M_aloneOutput (M_al v)))]) rfl ?_
  refine r_iload_n (pc := 0) cx dX10_branches_0 3 rfl ?_
  replace hf := nm_of hf
  obtain ⟨J2, eJ2, hf⟩ := hf
  have hJ2 : ∀ (x1 : Int32), J2 x1 = some (r_, o_v) → WW p l e rm_M_branches s m args below meth c D A 6 0 0 (MQ below (QI D K A r_ (cl_M K q o_v)) args s 0 0 A) ([((q 0), ob 9 [.int (M_thrown v), .ref (q 1), .int (M_taped (M_tp v)), .ref (q 2), .ref (q 3), .ref (q 4), .ref (q 5), .ref (q 6), .ref (q 7), .ref (q 8), .ref (q 9), .ref (q 10), .ref (q 11), .ref (q 12), .ref (q 13), .ref (q 14), .int (M_lines (M_rd v)), .int (M_size (M_rd v)), .int (M_at (M_rd v)), .int (M_place (M_rd v)), .int (M_sort (M_rd v)), .int (M_value (M_rd v)), .int (M_fault (M_rd v)), .int (M_faultPlace (M_rd v)), .int (M_lastFault (M_lf v)), .int (M_lastPlace (M_lf v)), .ref (q 15), .ref (q 16), .ref (q 17), .ref (q 18), .int (M_hasImage (M_im v)), .int (M_spanNow (M_rn v)), .ref (q 19), .int x1, .int (M_alonePlace (M_al v)), .int (M_aloneSteps (M_al v)), .int (M_aloneOut (M_al v)), .ref (q 20), .ref (q 21), .ref (q 22), .ref (q 23), .int (M_shotAlarm (M_ex v)), .int (M_drawn (M_ex v))]), ((q 1), aI K 700 (M_tape (M_tp v))), ((q 2), aI K 20 (M_number (M_cd v))), ((q 3), aZ K 5 (M_isTold (M_rd v))), ((q 4), aI K 80 (M_codeSort (M_cd v))), ((q 5), aI K 80 (M_codeA (M_cd v))), ((q 6), aI K 80 (M_codeB (M_cd v))), ((q 7), aI K 80 (M_codeC (M_cd v))), ((q 8), aI K 80 (M_codeName (M_cd v))), ((q 9), aI K 80 (M_codePlace (M_cd v))), ((q 10), aI K 80 (M_codeTo (M_cd v))), ((q 11), aI K 280 (M_labelName (M_cd v))), ((q 12), aI K 280 (M_labelAt (M_cd v))), ((q 13), aI K 64 (M_data (M_cd v))), ((q 14), aZ K 32 (M_hasData (M_rd v))), ((q 15), aI K 314 (M_s (M_rn v))), ((q 16), aI K 314 (M_aside (M_ex v))), ((q 17), aI K 314 (M_further (M_ex v))), ((q 18), aI K 314 (M_image (M_im v))), ((q 19), aI K 3 (M_sizeNow (M_rn v))), ((q 20), aI K 8 (M_aloneRegister (M_al v))), ((q 21), aI K 4 (M_aloneReal (M_al v))), ((q 22), aI K 32 (M_aloneMemory (M_al v))), ((q 23), aI K 999 (M_aloneOutput (M_al v)))]) ([(0, .ref (q 0)), (1, .int a1), (3, .int a3)]) ([]) 14 := by
    clear hf
    intro x1 hf
    rw [eJ2] at hf
    refine r_iload_n (pc := 14) cx dX10_branches_14 1 rfl ?_
    refine r_if_ne (pc := 15) (tgt := 55) cx dX10_branches_15 (by decide) (fun h3 => ?_) (fun h3 => ?_)
    · replace hf := ifn h3 hf
      refine r_aload_n (pc := 55) cx dX10_branches_55 0 rfl ?_
      refine r_get (pc := 56) cx cf_X10 0 26 rfl (by decide) rfl wd_1342 dX10_branches_56 ?_
      refine r_bipush (pc := 59) cx dX10_branches_59 bp_104 ?_
      refine r_iald (pc := 61) cx 15 rfl (by decide) dX10_branches_61 ?_
      replace hf := nm_of hf
      obtain ⟨x4, ex4, hf⟩ := hf
      refine r_nm ex4 ?_
      refine r_istore (pc := 62) (loc' := [(4, .int x4), (0, .ref (q 0)), (1, .int a1), (3, .int a3)]) cx dX10_branches_62 (by decide) rfl ?_
      refine r_iconst (pc := 64) cx dX10_branches_64 ic_1 ?_
      refine r_istore (pc := 65) (loc' := [(5, .int (1 : Int32)), (4, .int x4), (0, .ref (q 0)), (1, .int a1), (3, .int a3)]) cx dX10_branches_65 (by decide) rfl ?_
      have hL67 : ∀ (k67_102 : (Nat → Int32) → Option (Int32 × T_M)), (∀ (f7 : (Nat → Int32)), k67_102 f7 = some (r_, o_v) → WW p l e rm_M_branches s m args below meth c D A 6 0 0 (MQ below (QI D K A r_ (cl_M K q o_v)) args s 0 0 A) ([((q 0), ob 9 [.int (M_thrown v), .ref (q 1), .int (M_taped (M_tp v)), .ref (q 2), .ref (q 3), .ref (q 4), .ref (q 5), .ref (q 6), .ref (q 7), .ref (q 8), .ref (q 9), .ref (q 10), .ref (q 11), .ref (q 12), .ref (q 13), .ref (q 14), .int (M_lines (M_rd v)), .int (M_size (M_rd v)), .int (M_at (M_rd v)), .int (M_place (M_rd v)), .int (M_sort (M_rd v)), .int (M_value (M_rd v)), .int (M_fault (M_rd v)), .int (M_faultPlace (M_rd v)), .int (M_lastFault (M_lf v)), .int (M_lastPlace (M_lf v)), .ref (q 15), .ref (q 16), .ref (q 17), .ref (q 18), .int (M_hasImage (M_im v)), .int (M_spanNow (M_rn v)), .ref (q 19), .int x1, .int (M_alonePlace (M_al v)), .int (M_aloneSteps (M_al v)), .int (M_aloneOut (M_al v)), .ref (q 20), .ref (q 21), .ref (q 22), .ref (q 23), .int (M_shotAlarm (M_ex v)), .int (M_drawn (M_ex v))]), ((q 1), aI K 700 (M_tape (M_tp v))), ((q 2), aI K 20 (M_number (M_cd v))), ((q 3), aZ K 5 (M_isTold (M_rd v))), ((q 4), aI K 80 (M_codeSort (M_cd v))), ((q 5), aI K 80 (M_codeA (M_cd v))), ((q 6), aI K 80 (M_codeB (M_cd v))), ((q 7), aI K 80 (M_codeC (M_cd v))), ((q 8), aI K 80 (M_codeName (M_cd v))), ((q 9), aI K 80 (M_codePlace (M_cd v))), ((q 10), aI K 80 (M_codeTo (M_cd v))), ((q 11), aI K 280 (M_labelName (M_cd v))), ((q 12), aI K 280 (M_labelAt (M_cd v))), ((q 13), aI K 64 (M_data (M_cd v))), ((q 14), aZ K 32 (M_hasData (M_rd v))), ((q 15), aI K 314 f7), ((q 16), aI K 314 (M_aside (M_ex v))), ((q 17), aI K 314 (M_further (M_ex v))), ((q 18), aI K 314 (M_image (M_im v))), ((q 19), aI K 3 (M_sizeNow (M_rn v))), ((q 20), aI K 8 (M_aloneRegister (M_al v))), ((q 21), aI K 4 (M_aloneReal (M_al v))), ((q 22), aI K 32 (M_aloneMemory (M_al v))), ((q 23), aI K 999 (M_aloneOutput (M_al v)))]) ([(0, .ref (q 0)), (3, .int a3), (4, .int x4)]) ([]) 102) → ∀ (n67 : Nat) (x5 : Int32) (f6 : (Nat → Int32)), f_M_branches_L67 k67_102 n67 x5 f6 = some (r_, o_v) → WW p l e rm_M_branches s m args below meth c D A 6 0 0 (MQ below (QI D K A r_ (cl_M K q o_v)) args s 0 0 A) ([((q 0), ob 9 [.int (M_thrown v), .ref (q 1), .int (M_taped (M_tp v)), .ref (q 2), .ref (q 3), .ref (q 4), .ref (q 5), .ref (q 6), .ref (q 7), .ref (q 8), .ref (q 9), .ref (q 10), .ref (q 11), .ref (q 12), .ref (q 13), .ref (q 14), .int (M_lines (M_rd v)), .int (M_size (M_rd v)), .int (M_at (M_rd v)), .int (M_place (M_rd v)), .int (M_sort (M_rd v)), .int (M_value (M_rd v)), .int (M_fault (M_rd v)), .int (M_faultPlace (M_rd v)), .int (M_lastFault (M_lf v)), .int (M_lastPlace (M_lf v)), .ref (q 15), .ref (q 16), .ref (q 17), .ref (q 18), .int (M_hasImage (M_im v)), .int (M_spanNow (M_rn v)), .ref (q 19), .int x1, .int (M_alonePlace (M_al v)), .int (M_aloneSteps (M_al v)), .int (M_aloneOut (M_al v)), .ref (q 20), .ref (q 21), .ref (q 22), .ref (q 23), .int (M_shotAlarm (M_ex v)), .int (M_drawn (M_ex v))]), ((q 1), aI K 700 (M_tape (M_tp v))), ((q 2), aI K 20 (M_number (M_cd v))), ((q 3), aZ K 5 (M_isTold (M_rd v))), ((q 4), aI K 80 (M_codeSort (M_cd v))), ((q 5), aI K 80 (M_codeA (M_cd v))), ((q 6), aI K 80 (M_codeB (M_cd v))), ((q 7), aI K 80 (M_codeC (M_cd v))), ((q 8), aI K 80 (M_codeName (M_cd v))), ((q 9), aI K 80 (M_codePlace (M_cd v))), ((q 10), aI K 80 (M_codeTo (M_cd v))), ((q 11), aI K 280 (M_labelName (M_cd v))), ((q 12), aI K 280 (M_labelAt (M_cd v))), ((q 13), aI K 64 (M_data (M_cd v))), ((q 14), aZ K 32 (M_hasData (M_rd v))), ((q 15), aI K 314 f6), ((q 16), aI K 314 (M_aside (M_ex v))), ((q 17), aI K 314 (M_further (M_ex v))), ((q 18), aI K 314 (M_image (M_im v))), ((q 19), aI K 3 (M_sizeNow (M_rn v))), ((q 20), aI K 8 (M_aloneRegister (M_al v))), ((q 21), aI K 4 (M_aloneReal (M_al v))), ((q 22), aI K 32 (M_aloneMemory (M_al v))), ((q 23), aI K 999 (M_aloneOutput (M_al v)))]) ([(0, .ref (q 0)), (3, .int a3), (4, .int x4), (5, .int x5)]) ([]) 67 := by
        clear hf
        intro k67_102 hk67_102 n67
        induction n67 with
        | zero => intro x5 f6 hf; exact (nomatch (show (none : Option (Int32 × T_M)) = some _ from hf))
        | succ n67 ih67 =>
          intro x5 f6 hf
          rw [f_M_branches_L67] at hf
          refine r_iload (pc := 67) cx dX10_branches_67 3 rfl ?_
          refine r_bipush (pc := 69) cx dX10_branches_69 bp_8 ?_
          refine r_icmp_ge (pc := 71) (tgt := 102) cx dX10_branches_71 (by decide) (fun h8 => ?_) (fun h8 => ?_)
          · replace hf := ifp h8 hf
            refine r_loc (loc' := [(0, .ref (q 0)), (3, .int a3), (4, .int x4)]) [0, 1, 2] rfl ?_
            exact hk67_102 _ hf
          · replace hf := ifn h8 hf
            refine r_aload_n (pc := 74) cx dX10_branches_74 0 rfl ?_
            refine r_get (pc := 75) cx cf_X10 0 26 rfl (by decide) rfl wd_1342 dX10_branches_75 ?_
            refine r_bipush (pc := 78) cx dX10_branches_78 bp_104 ?_
            refine r_iload (pc := 80) cx dX10_branches_80 3 rfl ?_
            refine r_iadd (pc := 82) cx dX10_branches_82 ?_
            refine r_iconst (pc := 83) cx dX10_branches_83 ic_1 ?_
            refine r_isub (pc := 84) cx dX10_branches_84 ?_
            refine r_aload_n (pc := 85) cx dX10_branches_85 0 rfl ?_
            refine r_get (pc := 86) cx cf_X10 0 26 rfl (by decide) rfl wd_1342 dX10_branches_86 ?_
            refine r_bipush (pc := 89) cx dX10_branches_89 bp_104 ?_
            refine r_iload (pc := 91) cx dX10_branches_91 3 rfl ?_
            refine r_iadd (pc := 93) cx dX10_branches_93 ?_
            replace hf := chk_of hf
            obtain ⟨h9, hf⟩ := hf
            refine r_iald (pc := 94) cx 15 rfl h9 dX10_branches_94 ?_
            replace hf := nm_of hf
            obtain ⟨x10, ex10, hf⟩ := hf
            refine r_nm ex10 ?_
            replace hf := chk_of hf
            obtain ⟨h11, hf⟩ := hf
            replace hf := nm_of hf
            obtain ⟨f12, ef12, hf⟩ := hf
            refine r_iast (pc := 95) (ws' := [((q 0), ob 9 [.int (M_thrown v), .ref (q 1), .int (M_taped (M_tp v)), .ref (q 2), .ref (q 3), .ref (q 4), .ref (q 5), .ref (q 6), .ref (q 7), .ref (q 8), .ref (q 9), .ref (q 10), .ref (q 11), .ref (q 12), .ref (q 13), .ref (q 14), .int (M_lines (M_rd v)), .int (M_size (M_rd v)), .int (M_at (M_rd v)), .int (M_place (M_rd v)), .int (M_sort (M_rd v)), .int (M_value (M_rd v)), .int (M_fault (M_rd v)), .int (M_faultPlace (M_rd v)), .int (M_lastFault (M_lf v)), .int (M_lastPlace (M_lf v)), .ref (q 15), .ref (q 16), .ref (q 17), .ref (q 18), .int (M_hasImage (M_im v)), .int (M_spanNow (M_rn v)), .ref (q 19), .int x1, .int (M_alonePlace (M_al v)), .int (M_aloneSteps (M_al v)), .int (M_aloneOut (M_al v)), .ref (q 20), .ref (q 21), .ref (q 22), .ref (q 23), .int (M_shotAlarm (M_ex v)), .int (M_drawn (M_ex v))]), ((q 1), aI K 700 (M_tape (M_tp v))), ((q 2), aI K 20 (M_number (M_cd v))), ((q 3), aZ K 5 (M_isTold (M_rd v))), ((q 4), aI K 80 (M_codeSort (M_cd v))), ((q 5), aI K 80 (M_codeA (M_cd v))), ((q 6), aI K 80 (M_codeB (M_cd v))), ((q 7), aI K 80 (M_codeC (M_cd v))), ((q 8), aI K 80 (M_codeName (M_cd v))), ((q 9), aI K 80 (M_codePlace (M_cd v))), ((q 10), aI K 80 (M_codeTo (M_cd v))), ((q 11), aI K 280 (M_labelName (M_cd v))), ((q 12), aI K 280 (M_labelAt (M_cd v))), ((q 13), aI K 64 (M_data (M_cd v))), ((q 14), aZ K 32 (M_hasData (M_rd v))), ((q 15), aI K 314 f12), ((q 16), aI K 314 (M_aside (M_ex v))), ((q 17), aI K 314 (M_further (M_ex v))), ((q 18), aI K 314 (M_image (M_im v))), ((q 19), aI K 3 (M_sizeNow (M_rn v))), ((q 20), aI K 8 (M_aloneRegister (M_al v))), ((q 21), aI K 4 (M_aloneReal (M_al v))), ((q 22), aI K 32 (M_aloneMemory (M_al v))), ((q 23), aI K 999 (M_aloneOutput (M_al v)))]) cx 15 rfl h11 dX10_branches_95 ef12 rfl ?_
            replace hf := nm_of hf
            obtain ⟨x13, ex13, hf⟩ := hf
            refine r_iinc (pc := 96) (loc' := [(5, .int x13), (0, .ref (q 0)), (3, .int a3), (4, .int x4)]) (v := x13) cx dX10_branches_96 3 rfl ((congrArg (fun z => x5 + z) ic_1).trans ex13.symm) (by decide) rfl ?_
            refine r_goto (pc := 99) (tgt := 67) cx dX10_branches_99 (by decide) ?_
            refine r_loc (loc' := [(0, .ref (q 0)), (3, .int a3), (4, .int x4), (5, .int x13)]) [1, 2, 3, 0] rfl ?_
            exact ih67 _ _ hf
      refine r_loc (loc' := [(0, .ref (q 0)), (3, .int a3), (4, .int x4), (5, .int (1 : Int32))]) [2, 4, 1, 0] rfl ?_
      refine hL67 _ (fun f7 hf => ?_) _ _ _ hf
      refine r_aload_n (pc := 102) cx dX10_branches_102 0 rfl ?_
      refine r_get (pc := 103) cx cf_X10 0 26 rfl (by decide) rfl wd_1342 dX10_branches_103 ?_
      refine r_bipush (pc := 106) cx dX10_branches_106 bp_103 ?_
      refine r_dup2 (pc := 108) cx dX10_branches_108 rfl rfl ?_
      refine r_iald (pc := 109) cx 15 rfl (by decide) dX10_branches_109 ?_
      refine r_iconst (pc := 110) cx dX10_branches_110 ic_1 ?_
      refine r_isub (pc := 111) cx dX10_branches_111 ?_
      replace hf := nm_of hf
      obtain ⟨x14, ex14, hf⟩ := hf
      refine r_nm ex14 ?_
      replace hf := nm_of hf
      obtain ⟨f15, ef15, hf⟩ := hf
      refine r_iast (pc := 112) (ws' := [((q 0), ob 9 [.int (M_thrown v), .ref (q 1), .int (M_taped (M_tp v)), .ref (q 2), .ref (q 3), .ref (q 4), .ref (q 5), .ref (q 6), .ref (q 7), .ref (q 8), .ref (q 9), .ref (q 10), .ref (q 11), .ref (q 12), .ref (q 13), .ref (q 14), .int (M_lines (M_rd v)), .int (M_size (M_rd v)), .int (M_at (M_rd v)), .int (M_place (M_rd v)), .int (M_sort (M_rd v)), .int (M_value (M_rd v)), .int (M_fault (M_rd v)), .int (M_faultPlace (M_rd v)), .int (M_lastFault (M_lf v)), .int (M_lastPlace (M_lf v)), .ref (q 15), .ref (q 16), .ref (q 17), .ref (q 18), .int (M_hasImage (M_im v)), .int (M_spanNow (M_rn v)), .ref (q 19), .int x1, .int (M_alonePlace (M_al v)), .int (M_aloneSteps (M_al v)), .int (M_aloneOut (M_al v)), .ref (q 20), .ref (q 21), .ref (q 22), .ref (q 23), .int (M_shotAlarm (M_ex v)), .int (M_drawn (M_ex v))]), ((q 1), aI K 700 (M_tape (M_tp v))), ((q 2), aI K 20 (M_number (M_cd v))), ((q 3), aZ K 5 (M_isTold (M_rd v))), ((q 4), aI K 80 (M_codeSort (M_cd v))), ((q 5), aI K 80 (M_codeA (M_cd v))), ((q 6), aI K 80 (M_codeB (M_cd v))), ((q 7), aI K 80 (M_codeC (M_cd v))), ((q 8), aI K 80 (M_codeName (M_cd v))), ((q 9), aI K 80 (M_codePlace (M_cd v))), ((q 10), aI K 80 (M_codeTo (M_cd v))), ((q 11), aI K 280 (M_labelName (M_cd v))), ((q 12), aI K 280 (M_labelAt (M_cd v))), ((q 13), aI K 64 (M_data (M_cd v))), ((q 14), aZ K 32 (M_hasData (M_rd v))), ((q 15), aI K 314 f15), ((q 16), aI K 314 (M_aside (M_ex v))), ((q 17), aI K 314 (M_further (M_ex v))), ((q 18), aI K 314 (M_image (M_im v))), ((q 19), aI K 3 (M_sizeNow (M_rn v))), ((q 20), aI K 8 (M_aloneRegister (M_al v))), ((q 21), aI K 4 (M_aloneReal (M_al v))), ((q 22), aI K 32 (M_aloneMemory (M_al v))), ((q 23), aI K 999 (M_aloneOutput (M_al v)))]) cx 15 rfl (by decide) dX10_branches_112 ef15 rfl ?_
      refine r_iload (pc := 113) cx dX10_branches_113 2 rfl ?_
      refine r_iload_n (pc := 115) cx dX10_branches_115 1 rfl ?_
      refine r_if_eq (pc := 116) (tgt := 123) cx dX10_branches_116 (by decide) (fun h16 => ?_) (fun h16 => ?_)
      · replace hf := ifp h16 hf
        refine r_iconst (pc := 123) cx dX10_branches_123 ic_0 ?_
        refine r_icmp_ne (pc := 124) (tgt := 131) cx dX10_branches_124 (by decide) (fun h17 => ?_) (fun h17 => ?_)
        · replace hf := ifn h17 hf
          refine r_iconst (pc := 131) cx dX10_branches_131 ic_2 ?_
          have hi := inj2 hf
          exact r_iret (pc := 132) cx hi.1 (by rw [← hi.2]; (try simp only [cl_M, M_tape_mk, M_taped_mk, M_tp_mk, M_lines_mk, M_size_mk, M_at_mk, M_place_mk, M_sort_mk, M_value_mk, M_fault_mk, M_faultPlace_mk, M_isTold_mk, M_hasData_mk, M_rd_mk, M_lastFault_mk, M_lastPlace_mk, M_lf_mk, M_number_mk, M_codeSort_mk, M_codeA_mk, M_codeB_mk, M_codeC_mk, M_codeName_mk, M_codePlace_mk, M_codeTo_mk, M_labelName_mk, M_labelAt_mk, M_data_mk, M_cd_mk, M_s_mk, M_spanNow_mk, M_sizeNow_mk, M_placeThen_mk, M_rn_mk, M_aside_mk, M_further_mk, M_shotAlarm_mk, M_drawn_mk, M_ex_mk, M_image_mk, M_hasImage_mk, M_im_mk, M_alonePlace_mk, M_aloneSteps_mk, M_aloneOut_mk, M_aloneRegister_mk, M_aloneReal_mk, M_aloneMemory_mk, M_aloneOutput_mk, M_al_mk, M_thrown_mk, List.cons_append, List.nil_append, List.append_nil]) <;> rfl) dX10_branches_132
        · replace hf := ifp h17 hf
          refine r_iconst (pc := 127) cx dX10_branches_127 ic_0 ?_
          refine r_goto (pc := 128) (tgt := 132) cx dX10_branches_128 (by decide) ?_
          have hi := inj2 hf
          exact r_iret (pc := 132) cx hi.1 (by rw [← hi.2]; (try simp only [cl_M, M_tape_mk, M_taped_mk, M_tp_mk, M_lines_mk, M_size_mk, M_at_mk, M_place_mk, M_sort_mk, M_value_mk, M_fault_mk, M_faultPlace_mk, M_isTold_mk, M_hasData_mk, M_rd_mk, M_lastFault_mk, M_lastPlace_mk, M_lf_mk, M_number_mk, M_codeSort_mk, M_codeA_mk, M_codeB_mk, M_codeC_mk, M_codeName_mk, M_codePlace_mk, M_codeTo_mk, M_labelName_mk, M_labelAt_mk, M_data_mk, M_cd_mk, M_s_mk, M_spanNow_mk, M_sizeNow_mk, M_placeThen_mk, M_rn_mk, M_aside_mk, M_further_mk, M_shotAlarm_mk, M_drawn_mk, M_ex_mk, M_image_mk, M_hasImage_mk, M_im_mk, M_alonePlace_mk, M_aloneSteps_mk, M_aloneOut_mk, M_aloneRegister_mk, M_aloneReal_mk, M_aloneMemory_mk, M_aloneOutput_mk, M_al_mk, M_thrown_mk, List.cons_append, List.nil_append, List.append_nil]) <;> rfl) dX10_branches_132
      · replace hf := ifn h16 hf
        refine r_iconst (pc := 119) cx dX10_branches_119 ic_1 ?_
        refine r_goto (pc := 120) (tgt := 124) cx dX10_branches_120 (by decide) ?_
        refine r_icmp_ne (pc := 124) (tgt := 131) cx dX10_branches_124 (by decide) (fun h18 => ?_) (fun h18 => ?_)
        · replace hf := ifn h18 hf
          refine r_iconst (pc := 131) cx dX10_branches_131 ic_2 ?_
          have hi := inj2 hf
          exact r_iret (pc := 132) cx hi.1 (by rw [← hi.2]; (try simp only [cl_M, M_tape_mk, M_taped_mk, M_tp_mk, M_lines_mk, M_size_mk, M_at_mk, M_place_mk, M_sort_mk, M_value_mk, M_fault_mk, M_faultPlace_mk, M_isTold_mk, M_hasData_mk, M_rd_mk, M_lastFault_mk, M_lastPlace_mk, M_lf_mk, M_number_mk, M_codeSort_mk, M_codeA_mk, M_codeB_mk, M_codeC_mk, M_codeName_mk, M_codePlace_mk, M_codeTo_mk, M_labelName_mk, M_labelAt_mk, M_data_mk, M_cd_mk, M_s_mk, M_spanNow_mk, M_sizeNow_mk, M_placeThen_mk, M_rn_mk, M_aside_mk, M_further_mk, M_shotAlarm_mk, M_drawn_mk, M_ex_mk, M_image_mk, M_hasImage_mk, M_im_mk, M_alonePlace_mk, M_aloneSteps_mk, M_aloneOut_mk, M_aloneRegister_mk, M_aloneReal_mk, M_aloneMemory_mk, M_aloneOutput_mk, M_al_mk, M_thrown_mk, List.cons_append, List.nil_append, List.append_nil]) <;> rfl) dX10_branches_132
        · replace hf := ifp h18 hf
          refine r_iconst (pc := 127) cx dX10_branches_127 ic_0 ?_
          refine r_goto (pc := 128) (tgt := 132) cx dX10_branches_128 (by decide) ?_
          have hi := inj2 hf
          exact r_iret (pc := 132) cx hi.1 (by rw [← hi.2]; (try simp only [cl_M, M_tape_mk, M_taped_mk, M_tp_mk, M_lines_mk, M_size_mk, M_at_mk, M_place_mk, M_sort_mk, M_value_mk, M_fault_mk, M_faultPlace_mk, M_isTold_mk, M_hasData_mk, M_rd_mk, M_lastFault_mk, M_lastPlace_mk, M_lf_mk, M_number_mk, M_codeSort_mk, M_codeA_mk, M_codeB_mk, M_codeC_mk, M_codeName_mk, M_codePlace_mk, M_codeTo_mk, M_labelName_mk, M_labelAt_mk, M_data_mk, M_cd_mk, M_s_mk, M_spanNow_mk, M_sizeNow_mk, M_placeThen_mk, M_rn_mk, M_aside_mk, M_further_mk, M_shotAlarm_mk, M_drawn_mk, M_ex_mk, M_image_mk, M_hasImage_mk, M_im_mk, M_alonePlace_mk, M_aloneSteps_mk, M_aloneOut_mk, M_aloneRegister_mk, M_aloneReal_mk, M_aloneMemory_mk, M_aloneOutput_mk, M_al_mk, M_thrown_mk, List.cons_append, List.nil_append, List.append_nil]) <;> rfl) dX10_branches_132
    · replace hf := ifp h3 hf
      refine r_aload_n (pc := 18) cx dX10_branches_18 0 rfl ?_
      refine r_get (pc := 19) cx cf_X10 0 26 rfl (by decide) rfl wd_1342 dX10_branches_19 ?_
      refine r_bipush (pc := 22) cx dX10_branches_22 bp_104 ?_
      refine r_aload_n (pc := 24) cx dX10_branches_24 0 rfl ?_
      refine r_get (pc := 25) cx cf_X10 0 26 rfl (by decide) rfl wd_1342 dX10_branches_25 ?_
      refine r_bipush (pc := 28) cx dX10_branches_28 bp_103 ?_
      refine r_iald (pc := 30) cx 15 rfl (by decide) dX10_branches_30 ?_
      refine r_iadd (pc := 31) cx dX10_branches_31 ?_
      refine r_iload_n (pc := 32) cx dX10_branches_32 2 rfl ?_
      replace hf := nm_of hf
      obtain ⟨J20, eJ20, hf⟩ := hf
      have hJ20 : ∀ (y19 : Int32), J20 y19 = some (r_, o_v) → WW p l e rm_M_branches s m args below meth c D A 6 0 0 (MQ below (QI D K A r_ (cl_M K q o_v)) args s 0 0 A) ([((q 0), ob 9 [.int (M_thrown v), .ref (q 1), .int (M_taped (M_tp v)), .ref (q 2), .ref (q 3), .ref (q 4), .ref (q 5), .ref (q 6), .ref (q 7), .ref (q 8), .ref (q 9), .ref (q 10), .ref (q 11), .ref (q 12), .ref (q 13), .ref (q 14), .int (M_lines (M_rd v)), .int (M_size (M_rd v)), .int (M_at (M_rd v)), .int (M_place (M_rd v)), .int (M_sort (M_rd v)), .int (M_value (M_rd v)), .int (M_fault (M_rd v)), .int (M_faultPlace (M_rd v)), .int (M_lastFault (M_lf v)), .int (M_lastPlace (M_lf v)), .ref (q 15), .ref (q 16), .ref (q 17), .ref (q 18), .int (M_hasImage (M_im v)), .int (M_spanNow (M_rn v)), .ref (q 19), .int x1, .int (M_alonePlace (M_al v)), .int (M_aloneSteps (M_al v)), .int (M_aloneOut (M_al v)), .ref (q 20), .ref (q 21), .ref (q 22), .ref (q 23), .int (M_shotAlarm (M_ex v)), .int (M_drawn (M_ex v))]), ((q 1), aI K 700 (M_tape (M_tp v))), ((q 2), aI K 20 (M_number (M_cd v))), ((q 3), aZ K 5 (M_isTold (M_rd v))), ((q 4), aI K 80 (M_codeSort (M_cd v))), ((q 5), aI K 80 (M_codeA (M_cd v))), ((q 6), aI K 80 (M_codeB (M_cd v))), ((q 7), aI K 80 (M_codeC (M_cd v))), ((q 8), aI K 80 (M_codeName (M_cd v))), ((q 9), aI K 80 (M_codePlace (M_cd v))), ((q 10), aI K 80 (M_codeTo (M_cd v))), ((q 11), aI K 280 (M_labelName (M_cd v))), ((q 12), aI K 280 (M_labelAt (M_cd v))), ((q 13), aI K 64 (M_data (M_cd v))), ((q 14), aZ K 32 (M_hasData (M_rd v))), ((q 15), aI K 314 (M_s (M_rn v))), ((q 16), aI K 314 (M_aside (M_ex v))), ((q 17), aI K 314 (M_further (M_ex v))), ((q 18), aI K 314 (M_image (M_im v))), ((q 19), aI K 3 (M_sizeNow (M_rn v))), ((q 20), aI K 8 (M_aloneRegister (M_al v))), ((q 21), aI K 4 (M_aloneReal (M_al v))), ((q 22), aI K 32 (M_aloneMemory (M_al v))), ((q 23), aI K 999 (M_aloneOutput (M_al v)))]) ([(0, .ref (q 0))]) ([.int y19, .int ((104 : Int32) + ((M_s (M_rn v)) (103 : Int32).toNatClampNeg)), .ref (q 15)]) 41 := by
        clear hf
        intro y19 hf
        rw [eJ20] at hf
        replace hf := chk_of hf
        obtain ⟨h21, hf⟩ := hf
        replace hf := nm_of hf
        obtain ⟨f22, ef22, hf⟩ := hf
        refine r_iast (pc := 41) (ws' := [((q 0), ob 9 [.int (M_thrown v), .ref (q 1), .int (M_taped (M_tp v)), .ref (q 2), .ref (q 3), .ref (q 4), .ref (q 5), .ref (q 6), .ref (q 7), .ref (q 8), .ref (q 9), .ref (q 10), .ref (q 11), .ref (q 12), .ref (q 13), .ref (q 14), .int (M_lines (M_rd v)), .int (M_size (M_rd v)), .int (M_at (M_rd v)), .int (M_place (M_rd v)), .int (M_sort (M_rd v)), .int (M_value (M_rd v)), .int (M_fault (M_rd v)), .int (M_faultPlace (M_rd v)), .int (M_lastFault (M_lf v)), .int (M_lastPlace (M_lf v)), .ref (q 15), .ref (q 16), .ref (q 17), .ref (q 18), .int (M_hasImage (M_im v)), .int (M_spanNow (M_rn v)), .ref (q 19), .int x1, .int (M_alonePlace (M_al v)), .int (M_aloneSteps (M_al v)), .int (M_aloneOut (M_al v)), .ref (q 20), .ref (q 21), .ref (q 22), .ref (q 23), .int (M_shotAlarm (M_ex v)), .int (M_drawn (M_ex v))]), ((q 1), aI K 700 (M_tape (M_tp v))), ((q 2), aI K 20 (M_number (M_cd v))), ((q 3), aZ K 5 (M_isTold (M_rd v))), ((q 4), aI K 80 (M_codeSort (M_cd v))), ((q 5), aI K 80 (M_codeA (M_cd v))), ((q 6), aI K 80 (M_codeB (M_cd v))), ((q 7), aI K 80 (M_codeC (M_cd v))), ((q 8), aI K 80 (M_codeName (M_cd v))), ((q 9), aI K 80 (M_codePlace (M_cd v))), ((q 10), aI K 80 (M_codeTo (M_cd v))), ((q 11), aI K 280 (M_labelName (M_cd v))), ((q 12), aI K 280 (M_labelAt (M_cd v))), ((q 13), aI K 64 (M_data (M_cd v))), ((q 14), aZ K 32 (M_hasData (M_rd v))), ((q 15), aI K 314 f22), ((q 16), aI K 314 (M_aside (M_ex v))), ((q 17), aI K 314 (M_further (M_ex v))), ((q 18), aI K 314 (M_image (M_im v))), ((q 19), aI K 3 (M_sizeNow (M_rn v))), ((q 20), aI K 8 (M_aloneRegister (M_al v))), ((q 21), aI K 4 (M_aloneReal (M_al v))), ((q 22), aI K 32 (M_aloneMemory (M_al v))), ((q 23), aI K 999 (M_aloneOutput (M_al v)))]) cx 15 rfl h21 dX10_branches_41 ef22 rfl ?_
        refine r_aload_n (pc := 42) cx dX10_branches_42 0 rfl ?_
        refine r_get (pc := 43) cx cf_X10 0 26 rfl (by decide) rfl wd_1342 dX10_branches_43 ?_
        refine r_bipush (pc := 46) cx dX10_branches_46 bp_103 ?_
        refine r_dup2 (pc := 48) cx dX10_branches_48 rfl rfl ?_
        refine r_iald (pc := 49) cx 15 rfl (by decide) dX10_branches_49 ?_
        refine r_iconst (pc := 50) cx dX10_branches_50 ic_1 ?_
        refine r_iadd (pc := 51) cx dX10_branches_51 ?_
        replace hf := nm_of hf
        obtain ⟨x23, ex23, hf⟩ := hf
        refine r_nm ex23 ?_
        replace hf := nm_of hf
        obtain ⟨f24, ef24, hf⟩ := hf
        refine r_iast (pc := 52) (ws' := [((q 0), ob 9 [.int (M_thrown v), .ref (q 1), .int (M_taped (M_tp v)), .ref (q 2), .ref (q 3), .ref (q 4), .ref (q 5), .ref (q 6), .ref (q 7), .ref (q 8), .ref (q 9), .ref (q 10), .ref (q 11), .ref (q 12), .ref (q 13), .ref (q 14), .int (M_lines (M_rd v)), .int (M_size (M_rd v)), .int (M_at (M_rd v)), .int (M_place (M_rd v)), .int (M_sort (M_rd v)), .int (M_value (M_rd v)), .int (M_fault (M_rd v)), .int (M_faultPlace (M_rd v)), .int (M_lastFault (M_lf v)), .int (M_lastPlace (M_lf v)), .ref (q 15), .ref (q 16), .ref (q 17), .ref (q 18), .int (M_hasImage (M_im v)), .int (M_spanNow (M_rn v)), .ref (q 19), .int x1, .int (M_alonePlace (M_al v)), .int (M_aloneSteps (M_al v)), .int (M_aloneOut (M_al v)), .ref (q 20), .ref (q 21), .ref (q 22), .ref (q 23), .int (M_shotAlarm (M_ex v)), .int (M_drawn (M_ex v))]), ((q 1), aI K 700 (M_tape (M_tp v))), ((q 2), aI K 20 (M_number (M_cd v))), ((q 3), aZ K 5 (M_isTold (M_rd v))), ((q 4), aI K 80 (M_codeSort (M_cd v))), ((q 5), aI K 80 (M_codeA (M_cd v))), ((q 6), aI K 80 (M_codeB (M_cd v))), ((q 7), aI K 80 (M_codeC (M_cd v))), ((q 8), aI K 80 (M_codeName (M_cd v))), ((q 9), aI K 80 (M_codePlace (M_cd v))), ((q 10), aI K 80 (M_codeTo (M_cd v))), ((q 11), aI K 280 (M_labelName (M_cd v))), ((q 12), aI K 280 (M_labelAt (M_cd v))), ((q 13), aI K 64 (M_data (M_cd v))), ((q 14), aZ K 32 (M_hasData (M_rd v))), ((q 15), aI K 314 f24), ((q 16), aI K 314 (M_aside (M_ex v))), ((q 17), aI K 314 (M_further (M_ex v))), ((q 18), aI K 314 (M_image (M_im v))), ((q 19), aI K 3 (M_sizeNow (M_rn v))), ((q 20), aI K 8 (M_aloneRegister (M_al v))), ((q 21), aI K 4 (M_aloneReal (M_al v))), ((q 22), aI K 32 (M_aloneMemory (M_al v))), ((q 23), aI K 999 (M_aloneOutput (M_al v)))]) cx 15 rfl (by decide) dX10_branches_52 ef24 rfl ?_
        refine r_iconst (pc := 53) cx dX10_branches_53 ic_0 ?_
        have hi := inj2 hf
        exact r_iret (pc := 54) cx hi.1 (by rw [← hi.2]; (try simp only [cl_M, M_tape_mk, M_taped_mk, M_tp_mk, M_lines_mk, M_size_mk, M_at_mk, M_place_mk, M_sort_mk, M_value_mk, M_fault_mk, M_faultPlace_mk, M_isTold_mk, M_hasData_mk, M_rd_mk, M_lastFault_mk, M_lastPlace_mk, M_lf_mk, M_number_mk, M_codeSort_mk, M_codeA_mk, M_codeB_mk, M_codeC_mk, M_codeName_mk, M_codePlace_mk, M_codeTo_mk, M_labelName_mk, M_labelAt_mk, M_data_mk, M_cd_mk, M_s_mk, M_spanNow_mk, M_sizeNow_mk, M_placeThen_mk, M_rn_mk, M_aside_mk, M_further_mk, M_shotAlarm_mk, M_drawn_mk, M_ex_mk, M_image_mk, M_hasImage_mk, M_im_mk, M_alonePlace_mk, M_aloneSteps_mk, M_aloneOut_mk, M_aloneRegister_mk, M_aloneReal_mk, M_aloneMemory_mk, M_aloneOutput_mk, M_al_mk, M_thrown_mk, List.cons_append, List.nil_append, List.append_nil]) <;> rfl) dX10_branches_54
      refine r_if_eq (pc := 33) (tgt := 40) cx dX10_branches_33 (by decide) (fun h25 => ?_) (fun h25 => ?_)
      · replace hf := ifp h25 hf
        refine r_iconst (pc := 40) cx dX10_branches_40 ic_0 ?_
        refine r_loc (loc' := [(0, .ref (q 0))]) [0] rfl ?_
        exact hJ20 _ hf
      · replace hf := ifn h25 hf
        refine r_iconst (pc := 36) cx dX10_branches_36 ic_1 ?_
        refine r_goto (pc := 37) (tgt := 41) cx dX10_branches_37 (by decide) ?_
        refine r_loc (loc' := [(0, .ref (q 0))]) [0] rfl ?_
        exact hJ20 _ hf
  refine r_if_eq (pc := 1) (tgt := 14) cx dX10_branches_1 (by decide) (fun h26 => ?_) (fun h26 => ?_)
  · replace hf := ifp h26 hf
    refine r_loc (loc' := [(0, .ref (q 0)), (1, .int a1), (3, .int a3)]) [0, 1, 3] rfl ?_
    exact hJ2 _ hf
  · replace hf := ifn h26 hf
    refine r_aload_n (pc := 4) cx dX10_branches_4 0 rfl ?_
    refine r_aload_n (pc := 5) cx dX10_branches_5 0 rfl ?_
    refine r_get (pc := 6) cx cf_X10 0 11 rfl (by decide) rfl wd_1327 dX10_branches_6 ?_
    refine r_iload_n (pc := 9) cx dX10_branches_9 2 rfl ?_
    replace hf := chk_of hf
    obtain ⟨h27, hf⟩ := hf
    refine r_iald (pc := 10) cx 10 rfl h27 dX10_branches_10 ?_
    replace hf := nm_of hf
    obtain ⟨x28, ex28, hf⟩ := hf
    refine r_nm ex28 ?_
    refine r_putI (pc := 11) (ws' := [((q 0), ob 9 [.int (M_thrown v), .ref (q 1), .int (M_taped (M_tp v)), .ref (q 2), .ref (q 3), .ref (q 4), .ref (q 5), .ref (q 6), .ref (q 7), .ref (q 8), .ref (q 9), .ref (q 10), .ref (q 11), .ref (q 12), .ref (q 13), .ref (q 14), .int (M_lines (M_rd v)), .int (M_size (M_rd v)), .int (M_at (M_rd v)), .int (M_place (M_rd v)), .int (M_sort (M_rd v)), .int (M_value (M_rd v)), .int (M_fault (M_rd v)), .int (M_faultPlace (M_rd v)), .int (M_lastFault (M_lf v)), .int (M_lastPlace (M_lf v)), .ref (q 15), .ref (q 16), .ref (q 17), .ref (q 18), .int (M_hasImage (M_im v)), .int (M_spanNow (M_rn v)), .ref (q 19), .int x28, .int (M_alonePlace (M_al v)), .int (M_aloneSteps (M_al v)), .int (M_aloneOut (M_al v)), .ref (q 20), .ref (q 21), .ref (q 22), .ref (q 23), .int (M_shotAlarm (M_ex v)), .int (M_drawn (M_ex v))]), ((q 1), aI K 700 (M_tape (M_tp v))), ((q 2), aI K 20 (M_number (M_cd v))), ((q 3), aZ K 5 (M_isTold (M_rd v))), ((q 4), aI K 80 (M_codeSort (M_cd v))), ((q 5), aI K 80 (M_codeA (M_cd v))), ((q 6), aI K 80 (M_codeB (M_cd v))), ((q 7), aI K 80 (M_codeC (M_cd v))), ((q 8), aI K 80 (M_codeName (M_cd v))), ((q 9), aI K 80 (M_codePlace (M_cd v))), ((q 10), aI K 80 (M_codeTo (M_cd v))), ((q 11), aI K 280 (M_labelName (M_cd v))), ((q 12), aI K 280 (M_labelAt (M_cd v))), ((q 13), aI K 64 (M_data (M_cd v))), ((q 14), aZ K 32 (M_hasData (M_rd v))), ((q 15), aI K 314 (M_s (M_rn v))), ((q 16), aI K 314 (M_aside (M_ex v))), ((q 17), aI K 314 (M_further (M_ex v))), ((q 18), aI K 314 (M_image (M_im v))), ((q 19), aI K 3 (M_sizeNow (M_rn v))), ((q 20), aI K 8 (M_aloneRegister (M_al v))), ((q 21), aI K 4 (M_aloneReal (M_al v))), ((q 22), aI K 32 (M_aloneMemory (M_al v))), ((q 23), aI K 999 (M_aloneOutput (M_al v)))]) cx cf_X10 0 33 rfl (by decide) (Nat.le_of_ble_eq_true rfl) rfl pfd_I wd_1349 dX10_branches_11 rfl ?_
    refine r_loc (loc' := [(0, .ref (q 0)), (1, .int a1), (3, .int a3)]) [0, 1, 3] rfl ?_
    exact hJ2 _ hf
theorem yv_X10_branches : YV yX10_branches cX10_branches 6 (some .int) 3 := ⟨⟨by decide +kernel, by decide +kernel, by decide +kernel⟩, wd_1666, wd_102, wd_1665, wd_66⟩
abbrev rm_M_leaderHolds : Room := { frames := 0, cells := 0, slots := 0, locals := 0 }
set_option maxRecDepth 100000 in
set_option maxHeartbeats 4000000 in
theorem m_M_leaderHolds (l : Launch) (D : va_G) (K : Nat → ClassId) (q : Nat → Nat) (v : T_M) (a1 : Int32) (a2 : Int32) {r_ : Int32} {o_v : T_M} (hf : f_M_leaderHolds v a1 a2 = some (r_, o_v)) : MI l yX10_leaderHolds cX10_leaderHolds 3 (some .int) rm_M_leaderHolds D K [.ref (q 0), .int a1, .int a2] (cl_M K q v) r_ (cl_M K q o_v) := by
  refine MI_of (loc0 := [(0, .ref (q 0)), (1, .int a1), (2, .int a2)]) (by decide +kernel) rfl (Nat.le_of_ble_eq_true rfl) ?_
  intro p e s m args below meth c A cx
  unfold f_M_leaderHolds at hf
  refine r_ws (ws' := [((q 0), ob 9 [.int (M_thrown v), .ref (q 1), .int (M_taped (M_tp v)), .ref (q 2), .ref (q 3), .ref (q 4), .ref (q 5), .ref (q 6), .ref (q 7), .ref (q 8), .ref (q 9), .ref (q 10), .ref (q 11), .ref (q 12), .ref (q 13), .ref (q 14), .int (M_lines (M_rd v)), .int (M_size (M_rd v)), .int (M_at (M_rd v)), .int (M_place (M_rd v)), .int (M_sort (M_rd v)), .int (M_value (M_rd v)), .int (M_fault (M_rd v)), .int (M_faultPlace (M_rd v)), .int (M_lastFault (M_lf v)), .int (M_lastPlace (M_lf v)), .ref (q 15), .ref (q 16), .ref (q 17), .ref (q 18), .int (M_hasImage (M_im v)), .int (M_spanNow (M_rn v)), .ref (q 19), .int (M_placeThen (M_rn v)), .int (M_alonePlace (M_al v)), .int (M_aloneSteps (M_al v)), .int (M_aloneOut (M_al v)), .ref (q 20), .ref (q 21), .ref (q 22), .ref (q 23), .int (M_shotAlarm (M_ex v)), .int (M_drawn (M_ex v))]), ((q 1), aI K 700 (M_tape (M_tp v))), ((q 2), aI K 20 (M_number (M_cd v))), ((q 3), aZ K 5 (M_isTold (M_rd v))), ((q 4), aI K 80 (M_codeSort (M_cd v))), ((q 5), aI K 80 (M_codeA (M_cd v))), ((q 6), aI K 80 (M_codeB (M_cd v))), ((q 7), aI K 80 (M_codeC (M_cd v))), ((q 8), aI K 80 (M_codeName (M_cd v))), ((q 9), aI K 80 (M_codePlace (M_cd v))), ((q 10), aI K 80 (M_codeTo (M_cd v))), ((q 11), aI K 280 (M_labelName (M_cd v))), ((q 12), aI K 280 (M_labelAt (M_cd v))), ((q 13), aI K 64 (M_data (M_cd v))), ((q 14), aZ K 32 (M_hasData (M_rd v))), ((q 15), aI K 314 (M_s (M_rn v))), ((q 16), aI K 314 (M_aside (M_ex v))), ((q 17), aI K 314 (M_further (M_ex v))), ((q 18), aI K 314 (M_image (M_im v))), ((q 19), aI K 3 (M_sizeNow (M_rn v))), ((q 20), aI K 8 (M_aloneRegister (M_al v))), ((q 21), aI K 4 (M_aloneReal (M_al v))), ((q 22), aI K 32 (M_aloneMemory (M_al v))), ((q 23), aI K 999 (M_aloneOutput (M_al v)))]) rfl ?_
  refine r_aload_n (pc := 0) cx dX10_leaderHolds_0 0 rfl ?_
  refine r_get (pc := 1) cx cf_X10 0 26 rfl (by decide) rfl wd_1342 dX10_leaderHolds_1 ?_
  refine r_bipush (pc := 4) cx dX10_leaderHolds_4 bp_114 ?_
  refine r_aload_n (pc := 6) cx dX10_leaderHolds_6 0 rfl ?_
  refine r_get (pc := 7) cx cf_X10 0 26 rfl (by decide) rfl wd_1342 dX10_leaderHolds_7 ?_
  refine r_bipush (pc := 10) cx dX10_leaderHolds_10 bp_112 ?_
  refine r_iald (pc := 12) cx 15 rfl (by decide) dX10_leaderHolds_12 ?_
  refine r_iadd (pc := 13) cx dX10_leaderHolds_13 ?_
  refine r_iload_n (pc := 14) cx dX10_leaderHolds_14 1 rfl ?_
  replace hf := chk_of hf
  obtain ⟨h1, hf⟩ := hf
  replace hf := nm_of hf
  obtain ⟨f2, ef2, hf⟩ := hf
  refine r_iast (pc := 15) (ws' := [((q 0), ob 9 [.int (M_thrown v), .ref (q 1), .int (M_taped (M_tp v)), .ref (q 2), .ref (q 3), .ref (q 4), .ref (q 5), .ref (q 6), .ref (q 7), .ref (q 8), .ref (q 9), .ref (q 10), .ref (q 11), .ref (q 12), .ref (q 13), .ref (q 14), .int (M_lines (M_rd v)), .int (M_size (M_rd v)), .int (M_at (M_rd v)), .int (M_place (M_rd v)), .int (M_sort (M_rd v)), .int (M_value (M_rd v)), .int (M_fault (M_rd v)), .int (M_faultPlace (M_rd v)), .int (M_lastFault (M_lf v)), .int (M_lastPlace (M_lf v)), .ref (q 15), .ref (q 16), .ref (q 17), .ref (q 18), .int (M_hasImage (M_im v)), .int (M_spanNow (M_rn v)), .ref (q 19), .int (M_placeThen (M_rn v)), .int (M_alonePlace (M_al v)), .int (M_aloneSteps (M_al v)), .int (M_aloneOut (M_al v)), .ref (q 20), .ref (q 21), .ref (q 22), .ref (q 23), .int (M_shotAlarm (M_ex v)), .int (M_drawn (M_ex v))]), ((q 1), aI K 700 (M_tape (M_tp v))), ((q 2), aI K 20 (M_number (M_cd v))), ((q 3), aZ K 5 (M_isTold (M_rd v))), ((q 4), aI K 80 (M_codeSort (M_cd v))), ((q 5), aI K 80 (M_codeA (M_cd v))), ((q 6), aI K 80 (M_codeB (M_cd v))), ((q 7), aI K 80 (M_codeC (M_cd v))), ((q 8), aI K 80 (M_codeName (M_cd v))), ((q 9), aI K 80 (M_codePlace (M_cd v))), ((q 10), aI K 80 (M_codeTo (M_cd v))), ((q 11), aI K 280 (M_labelName (M_cd v))), ((q 12), aI K 280 (M_labelAt (M_cd v))), ((q 13), aI K 64 (M_data (M_cd v))), ((q 14), aZ K 32 (M_hasData (M_rd v))), ((q 15), aI K 314 f2), ((q 16), aI K 314 (M_aside (M_ex v))), ((q 17), aI K 314 (M_further (M_ex v))), ((q 18), aI K 314 (M_image (M_im v))), ((q 19), aI K 3 (M_sizeNow (M_rn v))), ((q 20), aI K 8 (M_aloneRegister (M_al v))), ((q 21), aI K 4 (M_aloneReal (M_al v))), ((q 22), aI K 32 (M_aloneMemory (M_al v))), ((q 23), aI K 999 (M_aloneOutput (M_al v)))]) cx 15 rfl h1 dX10_leaderHolds_15 ef2 rfl ?_
  refine r_aload_n (pc := 16) cx dX10_leaderHolds_16 0 rfl ?_
  refine r_get (pc := 17) cx cf_X10 0 26 rfl (by decide) rfl wd_1342 dX10_leaderHolds_17 ?_
  refine r_bipush (pc := 20) cx dX10_leaderHolds_20 bp_122 ?_
  refine r_aload_n (pc := 22) cx dX10_leaderHolds_22 0 rfl ?_
  refine r_get (pc := 23) cx cf_X10 0 26 rfl (by decide) rfl wd_1342 dX10_leaderHolds_23 ?_
  refine r_bipush (pc := 26) cx dX10_leaderHolds_26 bp_112 ?_
  refine r_iald (pc := 28) cx 15 rfl (by decide) dX10_leaderHolds_28 ?_
  refine r_iadd (pc := 29) cx dX10_leaderHolds_29 ?_
  refine r_iload_n (pc := 30) cx dX10_leaderHolds_30 2 rfl ?_
  replace hf := chk_of hf
  obtain ⟨h3, hf⟩ := hf
  replace hf := nm_of hf
  obtain ⟨f4, ef4, hf⟩ := hf
  refine r_iast (pc := 31) (ws' := [((q 0), ob 9 [.int (M_thrown v), .ref (q 1), .int (M_taped (M_tp v)), .ref (q 2), .ref (q 3), .ref (q 4), .ref (q 5), .ref (q 6), .ref (q 7), .ref (q 8), .ref (q 9), .ref (q 10), .ref (q 11), .ref (q 12), .ref (q 13), .ref (q 14), .int (M_lines (M_rd v)), .int (M_size (M_rd v)), .int (M_at (M_rd v)), .int (M_place (M_rd v)), .int (M_sort (M_rd v)), .int (M_value (M_rd v)), .int (M_fault (M_rd v)), .int (M_faultPlace (M_rd v)), .int (M_lastFault (M_lf v)), .int (M_lastPlace (M_lf v)), .ref (q 15), .ref (q 16), .ref (q 17), .ref (q 18), .int (M_hasImage (M_im v)), .int (M_spanNow (M_rn v)), .ref (q 19), .int (M_placeThen (M_rn v)), .int (M_alonePlace (M_al v)), .int (M_aloneSteps (M_al v)), .int (M_aloneOut (M_al v)), .ref (q 20), .ref (q 21), .ref (q 22), .ref (q 23), .int (M_shotAlarm (M_ex v)), .int (M_drawn (M_ex v))]), ((q 1), aI K 700 (M_tape (M_tp v))), ((q 2), aI K 20 (M_number (M_cd v))), ((q 3), aZ K 5 (M_isTold (M_rd v))), ((q 4), aI K 80 (M_codeSort (M_cd v))), ((q 5), aI K 80 (M_codeA (M_cd v))), ((q 6), aI K 80 (M_codeB (M_cd v))), ((q 7), aI K 80 (M_codeC (M_cd v))), ((q 8), aI K 80 (M_codeName (M_cd v))), ((q 9), aI K 80 (M_codePlace (M_cd v))), ((q 10), aI K 80 (M_codeTo (M_cd v))), ((q 11), aI K 280 (M_labelName (M_cd v))), ((q 12), aI K 280 (M_labelAt (M_cd v))), ((q 13), aI K 64 (M_data (M_cd v))), ((q 14), aZ K 32 (M_hasData (M_rd v))), ((q 15), aI K 314 f4), ((q 16), aI K 314 (M_aside (M_ex v))), ((q 17), aI K 314 (M_further (M_ex v))), ((q 18), aI K 314 (M_image (M_im v))), ((q 19), aI K 3 (M_sizeNow (M_rn v))), ((q 20), aI K 8 (M_aloneRegister (M_al v))), ((q 21), aI K 4 (M_aloneReal (M_al v))), ((q 22), aI K 32 (M_aloneMemory (M_al v))), ((q 23), aI K 999 (M_aloneOutput (M_al v)))]) cx 15 rfl h3 dX10_leaderHolds_31 ef4 rfl ?_
  refine r_aload_n (pc := 32) cx dX10_leaderHolds_32 0 rfl ?_
  refine r_get (pc := 33) cx cf_X10 0 26 rfl (by decide) rfl wd_1342 dX10_leaderHolds_33 ?_
  refine r_bipush (pc := 36) cx dX10_leaderHolds_36 bp_112 ?_
  refine r_dup2 (pc := 38) cx dX10_leaderHolds_38 rfl rfl ?_
  refine r_iald (pc := 39) cx 15 rfl (by decide) dX10_leaderHolds_39 ?_
  refine r_iconst (pc := 40) cx dX10_leaderHolds_40 ic_1 ?_
  refine r_iadd (pc := 41) cx dX10_leaderHolds_41 ?_
  replace hf := nm_of hf
  obtain ⟨x5, ex5, hf⟩ := hf
  refine r_nm ex5 ?_
  replace hf := nm_of hf
  obtain ⟨f6, ef6, hf⟩ := hf
  refine r_iast (pc := 42) (ws' := [((q 0), ob 9 [.int (M_thrown v), .ref (q 1), .int (M_taped (M_tp v)), .ref (q 2), .ref (q 3), .ref (q 4), .ref (q 5), .ref (q 6), .ref (q 7), .ref (q 8), .ref (q 9), .ref (q 10), .ref (q 11), .ref (q 12), .ref (q 13), .ref (q 14), .int (M_lines (M_rd v)), .int (M_size (M_rd v)), .int (M_at (M_rd v)), .int (M_place (M_rd v)), .int (M_sort (M_rd v)), .int (M_value (M_rd v)), .int (M_fault (M_rd v)), .int (M_faultPlace (M_rd v)), .int (M_lastFault (M_lf v)), .int (M_lastPlace (M_lf v)), .ref (q 15), .ref (q 16), .ref (q 17), .ref (q 18), .int (M_hasImage (M_im v)), .int (M_spanNow (M_rn v)), .ref (q 19), .int (M_placeThen (M_rn v)), .int (M_alonePlace (M_al v)), .int (M_aloneSteps (M_al v)), .int (M_aloneOut (M_al v)), .ref (q 20), .ref (q 21), .ref (q 22), .ref (q 23), .int (M_shotAlarm (M_ex v)), .int (M_drawn (M_ex v))]), ((q 1), aI K 700 (M_tape (M_tp v))), ((q 2), aI K 20 (M_number (M_cd v))), ((q 3), aZ K 5 (M_isTold (M_rd v))), ((q 4), aI K 80 (M_codeSort (M_cd v))), ((q 5), aI K 80 (M_codeA (M_cd v))), ((q 6), aI K 80 (M_codeB (M_cd v))), ((q 7), aI K 80 (M_codeC (M_cd v))), ((q 8), aI K 80 (M_codeName (M_cd v))), ((q 9), aI K 80 (M_codePlace (M_cd v))), ((q 10), aI K 80 (M_codeTo (M_cd v))), ((q 11), aI K 280 (M_labelName (M_cd v))), ((q 12), aI K 280 (M_labelAt (M_cd v))), ((q 13), aI K 64 (M_data (M_cd v))), ((q 14), aZ K 32 (M_hasData (M_rd v))), ((q 15), aI K 314 f6), ((q 16), aI K 314 (M_aside (M_ex v))), ((q 17), aI K 314 (M_further (M_ex v))), ((q 18), aI K 314 (M_image (M_im v))), ((q 19), aI K 3 (M_sizeNow (M_rn v))), ((q 20), aI K 8 (M_aloneRegister (M_al v))), ((q 21), aI K 4 (M_aloneReal (M_al v))), ((q 22), aI K 32 (M_aloneMemory (M_al v))), ((q 23), aI K 999 (M_aloneOutput (M_al v)))]) cx 15 rfl (by decide) dX10_leaderHolds_42 ef6 rfl ?_
  refine r_iconst (pc := 43) cx dX10_leaderHolds_43 ic_0 ?_
  have hi := inj2 hf
  exact r_iret (pc := 44) cx hi.1 (by rw [← hi.2]; (try simp only [cl_M, M_tape_mk, M_taped_mk, M_tp_mk, M_lines_mk, M_size_mk, M_at_mk, M_place_mk, M_sort_mk, M_value_mk, M_fault_mk, M_faultPlace_mk, M_isTold_mk, M_hasData_mk, M_rd_mk, M_lastFault_mk, M_lastPlace_mk, M_lf_mk, M_number_mk, M_codeSort_mk, M_codeA_mk, M_codeB_mk, M_codeC_mk, M_codeName_mk, M_codePlace_mk, M_codeTo_mk, M_labelName_mk, M_labelAt_mk, M_data_mk, M_cd_mk, M_s_mk, M_spanNow_mk, M_sizeNow_mk, M_placeThen_mk, M_rn_mk, M_aside_mk, M_further_mk, M_shotAlarm_mk, M_drawn_mk, M_ex_mk, M_image_mk, M_hasImage_mk, M_im_mk, M_alonePlace_mk, M_aloneSteps_mk, M_aloneOut_mk, M_aloneRegister_mk, M_aloneReal_mk, M_aloneMemory_mk, M_aloneOutput_mk, M_al_mk, M_thrown_mk, List.cons_append, List.nil_append, List.append_nil]) <;> rfl) dX10_leaderHolds_44
theorem yv_X10_leaderHolds : YV yX10_leaderHolds cX10_leaderHolds 3 (some .int) 2 := ⟨⟨by decide +kernel, by decide +kernel, by decide +kernel⟩, wd_1622, wd_102, wd_1621, wd_64⟩
abbrev rm_M_trailerHolds : Room := { frames := 0, cells := 0, slots := 0, locals := 0 }
set_option maxRecDepth 100000 in
set_option maxHeartbeats 4000000 in
theorem m_M_trailerHolds (l : Launch) (D : va_G) (K : Nat → ClassId) (q : Nat → Nat) (v : T_M) (a1 : Int32) (a2 : Int32) {r_ : Int32} {o_v : T_M} (hf : f_M_trailerHolds v a1 a2 = some (r_, o_v)) : MI l yX10_trailerHolds cX10_trailerHolds 4 (some .int) rm_M_trailerHolds D K [.ref (q 0), .int a1, .int a2] (cl_M K q v) r_ (cl_M K q o_v) := by
  refine MI_of (loc0 := [(0, .ref (q 0)), (1, .int a1), (2, .int a2)]) (by decide +kernel) rfl (Nat.le_of_ble_eq_true rfl) ?_
  intro p e s m args below meth c A cx
  unfold f_M_trailerHolds at hf
  refine r_ws (ws' := [((q 0), ob 9 [.int (M_thrown v), .ref (q 1), .int (M_taped (M_tp v)), .ref (q 2), .ref (q 3), .ref (q 4), .ref (q 5), .ref (q 6), .ref (q 7), .ref (q 8), .ref (q 9), .ref (q 10), .ref (q 11), .ref (q 12), .ref (q 13), .ref (q 14), .int (M_lines (M_rd v)), .int (M_size (M_rd v)), .int (M_at (M_rd v)), .int (M_place (M_rd v)), .int (M_sort (M_rd v)), .int (M_value (M_rd v)), .int (M_fault (M_rd v)), .int (M_faultPlace (M_rd v)), .int (M_lastFault (M_lf v)), .int (M_lastPlace (M_lf v)), .ref (q 15), .ref (q 16), .ref (q 17), .ref (q 18), .int (M_hasImage (M_im v)), .int (M_spanNow (M_rn v)), .ref (q 19), .int (M_placeThen (M_rn v)), .int (M_alonePlace (M_al v)), .int (M_aloneSteps (M_al v)), .int (M_aloneOut (M_al v)), .ref (q 20), .ref (q 21), .ref (q 22), .ref (q 23), .int (M_shotAlarm (M_ex v)), .int (M_drawn (M_ex v))]), ((q 1), aI K 700 (M_tape (M_tp v))), ((q 2), aI K 20 (M_number (M_cd v))), ((q 3), aZ K 5 (M_isTold (M_rd v))), ((q 4), aI K 80 (M_codeSort (M_cd v))), ((q 5), aI K 80 (M_codeA (M_cd v))), ((q 6), aI K 80 (M_codeB (M_cd v))), ((q 7), aI K 80 (M_codeC (M_cd v))), ((q 8), aI K 80 (M_codeName (M_cd v))), ((q 9), aI K 80 (M_codePlace (M_cd v))), ((q 10), aI K 80 (M_codeTo (M_cd v))), ((q 11), aI K 280 (M_labelName (M_cd v))), ((q 12), aI K 280 (M_labelAt (M_cd v))), ((q 13), aI K 64 (M_data (M_cd v))), ((q 14), aZ K 32 (M_hasData (M_rd v))), ((q 15), aI K 314 (M_s (M_rn v))), ((q 16), aI K 314 (M_aside (M_ex v))), ((q 17), aI K 314 (M_further (M_ex v))), ((q 18), aI K 314 (M_image (M_im v))), ((q 19), aI K 3 (M_sizeNow (M_rn v))), ((q 20), aI K 8 (M_aloneRegister (M_al v))), ((q 21), aI K 4 (M_aloneReal (M_al v))), ((q 22), aI K 32 (M_aloneMemory (M_al v))), ((q 23), aI K 999 (M_aloneOutput (M_al v)))]) rfl ?_
  refine r_aload_n (pc := 0) cx dX10_trailerHolds_0 0 rfl ?_
  refine r_get (pc := 1) cx cf_X10 0 26 rfl (by decide) rfl wd_1342 dX10_trailerHolds_1 ?_
  refine r_bipush (pc := 4) cx dX10_trailerHolds_4 bp_113 ?_
  refine r_iald (pc := 6) cx 15 rfl (by decide) dX10_trailerHolds_6 ?_
  replace hf := nm_of hf
  obtain ⟨x1, ex1, hf⟩ := hf
  refine r_nm ex1 ?_
  refine r_istore_n (pc := 7) (loc' := [(3, .int x1), (0, .ref (q 0)), (1, .int a1), (2, .int a2)]) cx dX10_trailerHolds_7 rfl (by decide) rfl ?_
  refine r_aload_n (pc := 8) cx dX10_trailerHolds_8 1 rfl ?_
  refine r_get (pc := 9) cx cf_X10 0 26 rfl (by decide) rfl wd_1342 dX10_trailerHolds_9 ?_
  refine r_sipush (pc := 12) cx dX10_trailerHolds_12 sp_130 ?_
  refine r_iload_n (pc := 15) cx dX10_trailerHolds_15 0 rfl ?_
  refine r_iadd (pc := 16) cx dX10_trailerHolds_16 ?_
  refine r_iload_n (pc := 17) cx dX10_trailerHolds_17 2 rfl ?_
  replace hf := chk_of hf
  obtain ⟨h2, hf⟩ := hf
  replace hf := nm_of hf
  obtain ⟨f3, ef3, hf⟩ := hf
  refine r_iast (pc := 18) (ws' := [((q 0), ob 9 [.int (M_thrown v), .ref (q 1), .int (M_taped (M_tp v)), .ref (q 2), .ref (q 3), .ref (q 4), .ref (q 5), .ref (q 6), .ref (q 7), .ref (q 8), .ref (q 9), .ref (q 10), .ref (q 11), .ref (q 12), .ref (q 13), .ref (q 14), .int (M_lines (M_rd v)), .int (M_size (M_rd v)), .int (M_at (M_rd v)), .int (M_place (M_rd v)), .int (M_sort (M_rd v)), .int (M_value (M_rd v)), .int (M_fault (M_rd v)), .int (M_faultPlace (M_rd v)), .int (M_lastFault (M_lf v)), .int (M_lastPlace (M_lf v)), .ref (q 15), .ref (q 16), .ref (q 17), .ref (q 18), .int (M_hasImage (M_im v)), .int (M_spanNow (M_rn v)), .ref (q 19), .int (M_placeThen (M_rn v)), .int (M_alonePlace (M_al v)), .int (M_aloneSteps (M_al v)), .int (M_aloneOut (M_al v)), .ref (q 20), .ref (q 21), .ref (q 22), .ref (q 23), .int (M_shotAlarm (M_ex v)), .int (M_drawn (M_ex v))]), ((q 1), aI K 700 (M_tape (M_tp v))), ((q 2), aI K 20 (M_number (M_cd v))), ((q 3), aZ K 5 (M_isTold (M_rd v))), ((q 4), aI K 80 (M_codeSort (M_cd v))), ((q 5), aI K 80 (M_codeA (M_cd v))), ((q 6), aI K 80 (M_codeB (M_cd v))), ((q 7), aI K 80 (M_codeC (M_cd v))), ((q 8), aI K 80 (M_codeName (M_cd v))), ((q 9), aI K 80 (M_codePlace (M_cd v))), ((q 10), aI K 80 (M_codeTo (M_cd v))), ((q 11), aI K 280 (M_labelName (M_cd v))), ((q 12), aI K 280 (M_labelAt (M_cd v))), ((q 13), aI K 64 (M_data (M_cd v))), ((q 14), aZ K 32 (M_hasData (M_rd v))), ((q 15), aI K 314 f3), ((q 16), aI K 314 (M_aside (M_ex v))), ((q 17), aI K 314 (M_further (M_ex v))), ((q 18), aI K 314 (M_image (M_im v))), ((q 19), aI K 3 (M_sizeNow (M_rn v))), ((q 20), aI K 8 (M_aloneRegister (M_al v))), ((q 21), aI K 4 (M_aloneReal (M_al v))), ((q 22), aI K 32 (M_aloneMemory (M_al v))), ((q 23), aI K 999 (M_aloneOutput (M_al v)))]) cx 15 rfl h2 dX10_trailerHolds_18 ef3 rfl ?_
  refine r_aload_n (pc := 19) cx dX10_trailerHolds_19 1 rfl ?_
  refine r_get (pc := 20) cx cf_X10 0 26 rfl (by decide) rfl wd_1342 dX10_trailerHolds_20 ?_
  refine r_sipush (pc := 23) cx dX10_trailerHolds_23 sp_138 ?_
  refine r_iload_n (pc := 26) cx dX10_trailerHolds_26 0 rfl ?_
  refine r_iadd (pc := 27) cx dX10_trailerHolds_27 ?_
  refine r_iload_n (pc := 28) cx dX10_trailerHolds_28 3 rfl ?_
  replace hf := chk_of hf
  obtain ⟨h4, hf⟩ := hf
  replace hf := nm_of hf
  obtain ⟨f5, ef5, hf⟩ := hf
  refine r_iast (pc := 29) (ws' := [((q 0), ob 9 [.int (M_thrown v), .ref (q 1), .int (M_taped (M_tp v)), .ref (q 2), .ref (q 3), .ref (q 4), .ref (q 5), .ref (q 6), .ref (q 7), .ref (q 8), .ref (q 9), .ref (q 10), .ref (q 11), .ref (q 12), .ref (q 13), .ref (q 14), .int (M_lines (M_rd v)), .int (M_size (M_rd v)), .int (M_at (M_rd v)), .int (M_place (M_rd v)), .int (M_sort (M_rd v)), .int (M_value (M_rd v)), .int (M_fault (M_rd v)), .int (M_faultPlace (M_rd v)), .int (M_lastFault (M_lf v)), .int (M_lastPlace (M_lf v)), .ref (q 15), .ref (q 16), .ref (q 17), .ref (q 18), .int (M_hasImage (M_im v)), .int (M_spanNow (M_rn v)), .ref (q 19), .int (M_placeThen (M_rn v)), .int (M_alonePlace (M_al v)), .int (M_aloneSteps (M_al v)), .int (M_aloneOut (M_al v)), .ref (q 20), .ref (q 21), .ref (q 22), .ref (q 23), .int (M_shotAlarm (M_ex v)), .int (M_drawn (M_ex v))]), ((q 1), aI K 700 (M_tape (M_tp v))), ((q 2), aI K 20 (M_number (M_cd v))), ((q 3), aZ K 5 (M_isTold (M_rd v))), ((q 4), aI K 80 (M_codeSort (M_cd v))), ((q 5), aI K 80 (M_codeA (M_cd v))), ((q 6), aI K 80 (M_codeB (M_cd v))), ((q 7), aI K 80 (M_codeC (M_cd v))), ((q 8), aI K 80 (M_codeName (M_cd v))), ((q 9), aI K 80 (M_codePlace (M_cd v))), ((q 10), aI K 80 (M_codeTo (M_cd v))), ((q 11), aI K 280 (M_labelName (M_cd v))), ((q 12), aI K 280 (M_labelAt (M_cd v))), ((q 13), aI K 64 (M_data (M_cd v))), ((q 14), aZ K 32 (M_hasData (M_rd v))), ((q 15), aI K 314 f5), ((q 16), aI K 314 (M_aside (M_ex v))), ((q 17), aI K 314 (M_further (M_ex v))), ((q 18), aI K 314 (M_image (M_im v))), ((q 19), aI K 3 (M_sizeNow (M_rn v))), ((q 20), aI K 8 (M_aloneRegister (M_al v))), ((q 21), aI K 4 (M_aloneReal (M_al v))), ((q 22), aI K 32 (M_aloneMemory (M_al v))), ((q 23), aI K 999 (M_aloneOutput (M_al v)))]) cx 15 rfl h4 dX10_trailerHolds_29 ef5 rfl ?_
  refine r_aload_n (pc := 30) cx dX10_trailerHolds_30 1 rfl ?_
  refine r_get (pc := 31) cx cf_X10 0 26 rfl (by decide) rfl wd_1342 dX10_trailerHolds_31 ?_
  refine r_bipush (pc := 34) cx dX10_trailerHolds_34 bp_114 ?_
  refine r_iload_n (pc := 36) cx dX10_trailerHolds_36 0 rfl ?_
  refine r_iadd (pc := 37) cx dX10_trailerHolds_37 ?_
  replace hf := chk_of hf
  obtain ⟨h6, hf⟩ := hf
  refine r_iald (pc := 38) cx 15 rfl h6 dX10_trailerHolds_38 ?_
  refine r_iload_n (pc := 39) cx dX10_trailerHolds_39 2 rfl ?_
  refine r_icmp_ne (pc := 40) (tgt := 56) cx dX10_trailerHolds_40 (by decide) (fun h7 => ?_) (fun h7 => ?_)
  · replace hf := ifn h7 hf
    refine r_iconst (pc := 56) cx dX10_trailerHolds_56 ic_3 ?_
    have hi := inj2 hf
    exact r_iret (pc := 57) cx hi.1 (by rw [← hi.2]; (try simp only [cl_M, M_tape_mk, M_taped_mk, M_tp_mk, M_lines_mk, M_size_mk, M_at_mk, M_place_mk, M_sort_mk, M_value_mk, M_fault_mk, M_faultPlace_mk, M_isTold_mk, M_hasData_mk, M_rd_mk, M_lastFault_mk, M_lastPlace_mk, M_lf_mk, M_number_mk, M_codeSort_mk, M_codeA_mk, M_codeB_mk, M_codeC_mk, M_codeName_mk, M_codePlace_mk, M_codeTo_mk, M_labelName_mk, M_labelAt_mk, M_data_mk, M_cd_mk, M_s_mk, M_spanNow_mk, M_sizeNow_mk, M_placeThen_mk, M_rn_mk, M_aside_mk, M_further_mk, M_shotAlarm_mk, M_drawn_mk, M_ex_mk, M_image_mk, M_hasImage_mk, M_im_mk, M_alonePlace_mk, M_aloneSteps_mk, M_aloneOut_mk, M_aloneRegister_mk, M_aloneReal_mk, M_aloneMemory_mk, M_aloneOutput_mk, M_al_mk, M_thrown_mk, List.cons_append, List.nil_append, List.append_nil]) <;> rfl) dX10_trailerHolds_57
  · replace hf := ifp h7 hf
    refine r_aload_n (pc := 43) cx dX10_trailerHolds_43 1 rfl ?_
    refine r_get (pc := 44) cx cf_X10 0 26 rfl (by decide) rfl wd_1342 dX10_trailerHolds_44 ?_
    refine r_bipush (pc := 47) cx dX10_trailerHolds_47 bp_122 ?_
    refine r_iload_n (pc := 49) cx dX10_trailerHolds_49 0 rfl ?_
    refine r_iadd (pc := 50) cx dX10_trailerHolds_50 ?_
    replace hf := chk_of hf
    obtain ⟨h8, hf⟩ := hf
    refine r_iald (pc := 51) cx 15 rfl h8 dX10_trailerHolds_51 ?_
    refine r_iload_n (pc := 52) cx dX10_trailerHolds_52 3 rfl ?_
    refine r_icmp_eq (pc := 53) (tgt := 58) cx dX10_trailerHolds_53 (by decide) (fun h9 => ?_) (fun h9 => ?_)
    · replace hf := ifp h9 hf
      refine r_aload_n (pc := 58) cx dX10_trailerHolds_58 1 rfl ?_
      refine r_get (pc := 59) cx cf_X10 0 26 rfl (by decide) rfl wd_1342 dX10_trailerHolds_59 ?_
      refine r_bipush (pc := 62) cx dX10_trailerHolds_62 bp_113 ?_
      refine r_dup2 (pc := 64) cx dX10_trailerHolds_64 rfl rfl ?_
      refine r_iald (pc := 65) cx 15 rfl (by decide) dX10_trailerHolds_65 ?_
      refine r_iconst (pc := 66) cx dX10_trailerHolds_66 ic_1 ?_
      refine r_iadd (pc := 67) cx dX10_trailerHolds_67 ?_
      replace hf := nm_of hf
      obtain ⟨x10, ex10, hf⟩ := hf
      refine r_nm ex10 ?_
      replace hf := nm_of hf
      obtain ⟨f11, ef11, hf⟩ := hf
      refine r_iast (pc := 68) (ws' := [((q 0), ob 9 [.int (M_thrown v), .ref (q 1), .int (M_taped (M_tp v)), .ref (q 2), .ref (q 3), .ref (q 4), .ref (q 5), .ref (q 6), .ref (q 7), .ref (q 8), .ref (q 9), .ref (q 10), .ref (q 11), .ref (q 12), .ref (q 13), .ref (q 14), .int (M_lines (M_rd v)), .int (M_size (M_rd v)), .int (M_at (M_rd v)), .int (M_place (M_rd v)), .int (M_sort (M_rd v)), .int (M_value (M_rd v)), .int (M_fault (M_rd v)), .int (M_faultPlace (M_rd v)), .int (M_lastFault (M_lf v)), .int (M_lastPlace (M_lf v)), .ref (q 15), .ref (q 16), .ref (q 17), .ref (q 18), .int (M_hasImage (M_im v)), .int (M_spanNow (M_rn v)), .ref (q 19), .int (M_placeThen (M_rn v)), .int (M_alonePlace (M_al v)), .int (M_aloneSteps (M_al v)), .int (M_aloneOut (M_al v)), .ref (q 20), .ref (q 21), .ref (q 22), .ref (q 23), .int (M_shotAlarm (M_ex v)), .int (M_drawn (M_ex v))]), ((q 1), aI K 700 (M_tape (M_tp v))), ((q 2), aI K 20 (M_number (M_cd v))), ((q 3), aZ K 5 (M_isTold (M_rd v))), ((q 4), aI K 80 (M_codeSort (M_cd v))), ((q 5), aI K 80 (M_codeA (M_cd v))), ((q 6), aI K 80 (M_codeB (M_cd v))), ((q 7), aI K 80 (M_codeC (M_cd v))), ((q 8), aI K 80 (M_codeName (M_cd v))), ((q 9), aI K 80 (M_codePlace (M_cd v))), ((q 10), aI K 80 (M_codeTo (M_cd v))), ((q 11), aI K 280 (M_labelName (M_cd v))), ((q 12), aI K 280 (M_labelAt (M_cd v))), ((q 13), aI K 64 (M_data (M_cd v))), ((q 14), aZ K 32 (M_hasData (M_rd v))), ((q 15), aI K 314 f11), ((q 16), aI K 314 (M_aside (M_ex v))), ((q 17), aI K 314 (M_further (M_ex v))), ((q 18), aI K 314 (M_image (M_im v))), ((q 19), aI K 3 (M_sizeNow (M_rn v))), ((q 20), aI K 8 (M_aloneRegister (M_al v))), ((q 21), aI K 4 (M_aloneReal (M_al v))), ((q 22), aI K 32 (M_aloneMemory (M_al v))), ((q 23), aI K 999 (M_aloneOutput (M_al v)))]) cx 15 rfl (by decide) dX10_trailerHolds_68 ef11 rfl ?_
      refine r_iconst (pc := 69) cx dX10_trailerHolds_69 ic_0 ?_
      have hi := inj2 hf
      exact r_iret (pc := 70) cx hi.1 (by rw [← hi.2]; (try simp only [cl_M, M_tape_mk, M_taped_mk, M_tp_mk, M_lines_mk, M_size_mk, M_at_mk, M_place_mk, M_sort_mk, M_value_mk, M_fault_mk, M_faultPlace_mk, M_isTold_mk, M_hasData_mk, M_rd_mk, M_lastFault_mk, M_lastPlace_mk, M_lf_mk, M_number_mk, M_codeSort_mk, M_codeA_mk, M_codeB_mk, M_codeC_mk, M_codeName_mk, M_codePlace_mk, M_codeTo_mk, M_labelName_mk, M_labelAt_mk, M_data_mk, M_cd_mk, M_s_mk, M_spanNow_mk, M_sizeNow_mk, M_placeThen_mk, M_rn_mk, M_aside_mk, M_further_mk, M_shotAlarm_mk, M_drawn_mk, M_ex_mk, M_image_mk, M_hasImage_mk, M_im_mk, M_alonePlace_mk, M_aloneSteps_mk, M_aloneOut_mk, M_aloneRegister_mk, M_aloneReal_mk, M_aloneMemory_mk, M_aloneOutput_mk, M_al_mk, M_thrown_mk, List.cons_append, List.nil_append, List.append_nil]) <;> rfl) dX10_trailerHolds_70
    · replace hf := ifn h9 hf
      refine r_iconst (pc := 56) cx dX10_trailerHolds_56 ic_3 ?_
      have hi := inj2 hf
      exact r_iret (pc := 57) cx hi.1 (by rw [← hi.2]; (try simp only [cl_M, M_tape_mk, M_taped_mk, M_tp_mk, M_lines_mk, M_size_mk, M_at_mk, M_place_mk, M_sort_mk, M_value_mk, M_fault_mk, M_faultPlace_mk, M_isTold_mk, M_hasData_mk, M_rd_mk, M_lastFault_mk, M_lastPlace_mk, M_lf_mk, M_number_mk, M_codeSort_mk, M_codeA_mk, M_codeB_mk, M_codeC_mk, M_codeName_mk, M_codePlace_mk, M_codeTo_mk, M_labelName_mk, M_labelAt_mk, M_data_mk, M_cd_mk, M_s_mk, M_spanNow_mk, M_sizeNow_mk, M_placeThen_mk, M_rn_mk, M_aside_mk, M_further_mk, M_shotAlarm_mk, M_drawn_mk, M_ex_mk, M_image_mk, M_hasImage_mk, M_im_mk, M_alonePlace_mk, M_aloneSteps_mk, M_aloneOut_mk, M_aloneRegister_mk, M_aloneReal_mk, M_aloneMemory_mk, M_aloneOutput_mk, M_al_mk, M_thrown_mk, List.cons_append, List.nil_append, List.append_nil]) <;> rfl) dX10_trailerHolds_57
theorem yv_X10_trailerHolds : YV yX10_trailerHolds cX10_trailerHolds 4 (some .int) 2 := ⟨⟨by decide +kernel, by decide +kernel, by decide +kernel⟩, wd_1626, wd_102, wd_1625, wd_65⟩
abbrev rm_M_leaderLoads : Room := { frames := 1, cells := 0, slots := 0, locals := 22 }
set_option maxRecDepth 100000 in
set_option maxHeartbeats 4000000 in
theorem m_M_leaderLoads (l : Launch) (D : va_G) (K : Nat → ClassId) (q : Nat → Nat) (v : T_M) (a1 : Int32) {r_ : Int32} {o_v : T_M} (hf : f_M_leaderLoads v a1 = some (r_, o_v)) : MI l yX10_leaderLoads cX10_leaderLoads 5 (some .int) rm_M_leaderLoads D K [.ref (q 0), .int a1] (cl_M K q v) r_ (cl_M K q o_v) := by
  refine MI_of (loc0 := [(0, .ref (q 0)), (1, .int a1)]) (by decide +kernel) rfl (Nat.le_of_ble_eq_true rfl) ?_
  intro p e s m args below meth c A cx
  unfold f_M_leaderLoads at hf
  refine r_ws (ws' := [((q 0), ob 9 [.int (M_thrown v), .ref (q 1), .int (M_taped (M_tp v)), .ref (q 2), .ref (q 3), .ref (q 4), .ref (q 5), .ref (q 6), .ref (q 7), .ref (q 8), .ref (q 9), .ref (q 10), .ref (q 11), .ref (q 12), .ref (q 13), .ref (q 14), .int (M_lines (M_rd v)), .int (M_size (M_rd v)), .int (M_at (M_rd v)), .int (M_place (M_rd v)), .int (M_sort (M_rd v)), .int (M_value (M_rd v)), .int (M_fault (M_rd v)), .int (M_faultPlace (M_rd v)), .int (M_lastFault (M_lf v)), .int (M_lastPlace (M_lf v)), .ref (q 15), .ref (q 16), .ref (q 17), .ref (q 18), .int (M_hasImage (M_im v)), .int (M_spanNow (M_rn v)), .ref (q 19), .int (M_placeThen (M_rn v)), .int (M_alonePlace (M_al v)), .int (M_aloneSteps (M_al v)), .int (M_aloneOut (M_al v)), .ref (q 20), .ref (q 21), .ref (q 22), .ref (q 23), .int (M_shotAlarm (M_ex v)), .int (M_drawn (M_ex v))]), ((q 1), aI K 700 (M_tape (M_tp v))), ((q 2), aI K 20 (M_number (M_cd v))), ((q 3), aZ K 5 (M_isTold (M_rd v))), ((q 4), aI K 80 (M_codeSort (M_cd v))), ((q 5), aI K 80 (M_codeA (M_cd v))), ((q 6), aI K 80 (M_codeB (M_cd v))), ((q 7), aI K 80 (M_codeC (M_cd v))), ((q 8), aI K 80 (M_codeName (M_cd v))), ((q 9), aI K 80 (M_codePlace (M_cd v))), ((q 10), aI K 80 (M_codeTo (M_cd v))), ((q 11), aI K 280 (M_labelName (M_cd v))), ((q 12), aI K 280 (M_labelAt (M_cd v))), ((q 13), aI K 64 (M_data (M_cd v))), ((q 14), aZ K 32 (M_hasData (M_rd v))), ((q 15), aI K 314 (M_s (M_rn v))), ((q 16), aI K 314 (M_aside (M_ex v))), ((q 17), aI K 314 (M_further (M_ex v))), ((q 18), aI K 314 (M_image (M_im v))), ((q 19), aI K 3 (M_sizeNow (M_rn v))), ((q 20), aI K 8 (M_aloneRegister (M_al v))), ((q 21), aI K 4 (M_aloneReal (M_al v))), ((q 22), aI K 32 (M_aloneMemory (M_al v))), ((q 23), aI K 999 (M_aloneOutput (M_al v)))]) rfl ?_
  refine r_aload_n (pc := 0) cx dX10_leaderLoads_0 0 rfl ?_
  refine r_iconst (pc := 1) cx dX10_leaderLoads_1 ic_0 ?_
  refine r_iload_n (pc := 2) cx dX10_leaderLoads_2 1 rfl ?_
  replace hf := bd_of hf
  obtain ⟨r1, hc2, hf⟩ := hf
  refine r_Vi (pc := 3) (ws' := [((q 0), ob 9 [.int (M_thrown v), .ref (q 1), .int (M_taped (M_tp v)), .ref (q 2), .ref (q 3), .ref (q 4), .ref (q 5), .ref (q 6), .ref (q 7), .ref (q 8), .ref (q 9), .ref (q 10), .ref (q 11), .ref (q 12), .ref (q 13), .ref (q 14), .int (M_lines (M_rd v)), .int (M_size (M_rd v)), .int (M_at (M_rd v)), .int (M_place (M_rd v)), .int (M_sort (M_rd v)), .int (M_value (M_rd v)), .int (M_fault (M_rd v)), .int (M_faultPlace (M_rd v)), .int (M_lastFault (M_lf v)), .int (M_lastPlace (M_lf v)), .ref (q 15), .ref (q 16), .ref (q 17), .ref (q 18), .int (M_hasImage (M_im v)), .int (M_spanNow (M_rn v)), .ref (q 19), .int (M_placeThen (M_rn v)), .int (M_alonePlace (M_al v)), .int (M_aloneSteps (M_al v)), .int (M_aloneOut (M_al v)), .ref (q 20), .ref (q 21), .ref (q 22), .ref (q 23), .int (M_shotAlarm (M_ex v)), .int (M_drawn (M_ex v))]), ((q 1), aI K 700 (M_tape (M_tp v))), ((q 2), aI K 20 (M_number (M_cd v))), ((q 3), aZ K 5 (M_isTold (M_rd v))), ((q 4), aI K 80 (M_codeSort (M_cd v))), ((q 5), aI K 80 (M_codeA (M_cd v))), ((q 6), aI K 80 (M_codeB (M_cd v))), ((q 7), aI K 80 (M_codeC (M_cd v))), ((q 8), aI K 80 (M_codeName (M_cd v))), ((q 9), aI K 80 (M_codePlace (M_cd v))), ((q 10), aI K 80 (M_codeTo (M_cd v))), ((q 11), aI K 280 (M_labelName (M_cd v))), ((q 12), aI K 280 (M_labelAt (M_cd v))), ((q 13), aI K 64 (M_data (M_cd v))), ((q 14), aZ K 32 (M_hasData (M_rd v))), ((q 15), aI K 314 (M_s (M_rn v))), ((q 16), aI K 314 (M_aside (M_ex v))), ((q 17), aI K 314 (M_further (M_ex v))), ((q 18), aI K 314 (M_image (M_im v))), ((q 19), aI K 3 (M_sizeNow (M_rn v))), ((q 20), aI K 8 (M_aloneRegister (M_al v))), ((q 21), aI K 4 (M_aloneReal (M_al v))), ((q 22), aI K 32 (M_aloneMemory (M_al v))), ((q 23), aI K 999 (M_aloneOutput (M_al v)))]) (wc := [((q 0), ob 9 [.int (M_thrown v), .ref (q 1), .int (M_taped (M_tp v)), .ref (q 2), .ref (q 3), .ref (q 4), .ref (q 5), .ref (q 6), .ref (q 7), .ref (q 8), .ref (q 9), .ref (q 10), .ref (q 11), .ref (q 12), .ref (q 13), .ref (q 14), .int (M_lines (M_rd v)), .int (M_size (M_rd v)), .int (M_at (M_rd v)), .int (M_place (M_rd v)), .int (M_sort (M_rd v)), .int (M_value (M_rd v)), .int (M_fault (M_rd v)), .int (M_faultPlace (M_rd v)), .int (M_lastFault (M_lf v)), .int (M_lastPlace (M_lf v)), .ref (q 15), .ref (q 16), .ref (q 17), .ref (q 18), .int (M_hasImage (M_im v)), .int (M_spanNow (M_rn v)), .ref (q 19), .int (M_placeThen (M_rn v)), .int (M_alonePlace (M_al v)), .int (M_aloneSteps (M_al v)), .int (M_aloneOut (M_al v)), .ref (q 20), .ref (q 21), .ref (q 22), .ref (q 23), .int (M_shotAlarm (M_ex v)), .int (M_drawn (M_ex v))]), ((q 1), aI K 700 (M_tape (M_tp v))), ((q 2), aI K 20 (M_number (M_cd v))), ((q 3), aZ K 5 (M_isTold (M_rd v))), ((q 4), aI K 80 (M_codeSort (M_cd v))), ((q 5), aI K 80 (M_codeA (M_cd v))), ((q 6), aI K 80 (M_codeB (M_cd v))), ((q 7), aI K 80 (M_codeC (M_cd v))), ((q 8), aI K 80 (M_codeName (M_cd v))), ((q 9), aI K 80 (M_codePlace (M_cd v))), ((q 10), aI K 80 (M_codeTo (M_cd v))), ((q 11), aI K 280 (M_labelName (M_cd v))), ((q 12), aI K 280 (M_labelAt (M_cd v))), ((q 13), aI K 64 (M_data (M_cd v))), ((q 14), aZ K 32 (M_hasData (M_rd v))), ((q 15), aI K 314 (M_s (M_rn v))), ((q 16), aI K 314 (M_aside (M_ex v))), ((q 17), aI K 314 (M_further (M_ex v))), ((q 18), aI K 314 (M_image (M_im v))), ((q 19), aI K 3 (M_sizeNow (M_rn v))), ((q 20), aI K 8 (M_aloneRegister (M_al v))), ((q 21), aI K 4 (M_aloneReal (M_al v))), ((q 22), aI K 32 (M_aloneMemory (M_al v))), ((q 23), aI K 999 (M_aloneOutput (M_al v)))]) (nn := 24) cx [.int (0 : Int32), .int a1] [] (m_M_addressOf l D K q v (0 : Int32) a1 hc2) rfl yv_X10_addressOf wd_1611 ⟨rfl, rfl⟩ (by decide) (fr_s (j := 0) rfl rfl rfl (fr_s (j := 1) rfl rfl rfl (fr_s (j := 2) rfl rfl rfl (fr_s (j := 3) rfl rfl rfl (fr_s (j := 4) rfl rfl rfl (fr_s (j := 5) rfl rfl rfl (fr_s (j := 6) rfl rfl rfl (fr_s (j := 7) rfl rfl rfl (fr_s (j := 8) rfl rfl rfl (fr_s (j := 9) rfl rfl rfl (fr_s (j := 10) rfl rfl rfl (fr_s (j := 11) rfl rfl rfl (fr_s (j := 12) rfl rfl rfl (fr_s (j := 13) rfl rfl rfl (fr_s (j := 14) rfl rfl rfl (fr_s (j := 15) rfl rfl rfl (fr_s (j := 16) rfl rfl rfl (fr_s (j := 17) rfl rfl rfl (fr_s (j := 18) rfl rfl rfl (fr_s (j := 19) rfl rfl rfl (fr_s (j := 20) rfl rfl rfl (fr_s (j := 21) rfl rfl rfl (fr_s (j := 22) rfl rfl rfl (fr_s (j := 23) rfl rfl rfl (fr_n))))))))))))))))))))))))) rfl (by decide) 0 rfl rfl rfl (Nat.le_of_ble_eq_true rfl) dX10_leaderLoads_3 ?_
  refine r_istore_n (pc := 6) (loc' := [(2, .int r1), (0, .ref (q 0)), (1, .int a1)]) cx dX10_leaderLoads_6 rfl (by decide) rfl ?_
  refine r_aload_n (pc := 7) cx dX10_leaderLoads_7 1 rfl ?_
  refine r_get (pc := 8) cx cf_X10 0 26 rfl (by decide) rfl wd_1342 dX10_leaderLoads_8 ?_
  refine r_sipush (pc := 11) cx dX10_leaderLoads_11 sp_146 ?_
  refine r_iload_n (pc := 14) cx dX10_leaderLoads_14 0 rfl ?_
  refine r_iadd (pc := 15) cx dX10_leaderLoads_15 ?_
  replace hf := chk_of hf
  obtain ⟨h3, hf⟩ := hf
  refine r_iald (pc := 16) cx 15 rfl h3 dX10_leaderLoads_16 ?_
  replace hf := nm_of hf
  obtain ⟨x4, ex4, hf⟩ := hf
  refine r_nm ex4 ?_
  refine r_istore_n (pc := 17) (loc' := [(3, .int x4), (2, .int r1), (0, .ref (q 0)), (1, .int a1)]) cx dX10_leaderLoads_17 rfl (by decide) rfl ?_
  refine r_iconst (pc := 18) cx dX10_leaderLoads_18 ic_0 ?_
  refine r_istore (pc := 19) (loc' := [(4, .int (0 : Int32)), (3, .int x4), (2, .int r1), (0, .ref (q 0)), (1, .int a1)]) cx dX10_leaderLoads_19 (by decide) rfl ?_
  have hL21 : ∀ (k21_64 : Int32 → Option (Int32 × T_M)), (∀ (x7 : Int32), k21_64 x7 = some (r_, o_v) → WW p l e rm_M_leaderLoads s m args below meth c D A 5 0 0 (MQ below (QI D K A r_ (cl_M K q o_v)) args s 0 0 A) ([((q 0), ob 9 [.int (M_thrown v), .ref (q 1), .int (M_taped (M_tp v)), .ref (q 2), .ref (q 3), .ref (q 4), .ref (q 5), .ref (q 6), .ref (q 7), .ref (q 8), .ref (q 9), .ref (q 10), .ref (q 11), .ref (q 12), .ref (q 13), .ref (q 14), .int (M_lines (M_rd v)), .int (M_size (M_rd v)), .int (M_at (M_rd v)), .int (M_place (M_rd v)), .int (M_sort (M_rd v)), .int (M_value (M_rd v)), .int (M_fault (M_rd v)), .int (M_faultPlace (M_rd v)), .int (M_lastFault (M_lf v)), .int (M_lastPlace (M_lf v)), .ref (q 15), .ref (q 16), .ref (q 17), .ref (q 18), .int (M_hasImage (M_im v)), .int (M_spanNow (M_rn v)), .ref (q 19), .int (M_placeThen (M_rn v)), .int (M_alonePlace (M_al v)), .int (M_aloneSteps (M_al v)), .int (M_aloneOut (M_al v)), .ref (q 20), .ref (q 21), .ref (q 22), .ref (q 23), .int (M_shotAlarm (M_ex v)), .int (M_drawn (M_ex v))]), ((q 1), aI K 700 (M_tape (M_tp v))), ((q 2), aI K 20 (M_number (M_cd v))), ((q 3), aZ K 5 (M_isTold (M_rd v))), ((q 4), aI K 80 (M_codeSort (M_cd v))), ((q 5), aI K 80 (M_codeA (M_cd v))), ((q 6), aI K 80 (M_codeB (M_cd v))), ((q 7), aI K 80 (M_codeC (M_cd v))), ((q 8), aI K 80 (M_codeName (M_cd v))), ((q 9), aI K 80 (M_codePlace (M_cd v))), ((q 10), aI K 80 (M_codeTo (M_cd v))), ((q 11), aI K 280 (M_labelName (M_cd v))), ((q 12), aI K 280 (M_labelAt (M_cd v))), ((q 13), aI K 64 (M_data (M_cd v))), ((q 14), aZ K 32 (M_hasData (M_rd v))), ((q 15), aI K 314 (M_s (M_rn v))), ((q 16), aI K 314 (M_aside (M_ex v))), ((q 17), aI K 314 (M_further (M_ex v))), ((q 18), aI K 314 (M_image (M_im v))), ((q 19), aI K 3 (M_sizeNow (M_rn v))), ((q 20), aI K 8 (M_aloneRegister (M_al v))), ((q 21), aI K 4 (M_aloneReal (M_al v))), ((q 22), aI K 32 (M_aloneMemory (M_al v))), ((q 23), aI K 999 (M_aloneOutput (M_al v)))]) ([(0, .ref (q 0)), (1, .int a1), (2, .int r1), (3, .int x7)]) ([]) 64) → ∀ (n21 : Nat) (x5 : Int32) (x6 : Int32), f_M_leaderLoads_L21 v r1 k21_64 n21 x5 x6 = some (r_, o_v) → WW p l e rm_M_leaderLoads s m args below meth c D A 5 0 0 (MQ below (QI D K A r_ (cl_M K q o_v)) args s 0 0 A) ([((q 0), ob 9 [.int (M_thrown v), .ref (q 1), .int (M_taped (M_tp v)), .ref (q 2), .ref (q 3), .ref (q 4), .ref (q 5), .ref (q 6), .ref (q 7), .ref (q 8), .ref (q 9), .ref (q 10), .ref (q 11), .ref (q 12), .ref (q 13), .ref (q 14), .int (M_lines (M_rd v)), .int (M_size (M_rd v)), .int (M_at (M_rd v)), .int (M_place (M_rd v)), .int (M_sort (M_rd v)), .int (M_value (M_rd v)), .int (M_fault (M_rd v)), .int (M_faultPlace (M_rd v)), .int (M_lastFault (M_lf v)), .int (M_lastPlace (M_lf v)), .ref (q 15), .ref (q 16), .ref (q 17), .ref (q 18), .int (M_hasImage (M_im v)), .int (M_spanNow (M_rn v)), .ref (q 19), .int (M_placeThen (M_rn v)), .int (M_alonePlace (M_al v)), .int (M_aloneSteps (M_al v)), .int (M_aloneOut (M_al v)), .ref (q 20), .ref (q 21), .ref (q 22), .ref (q 23), .int (M_shotAlarm (M_ex v)), .int (M_drawn (M_ex v))]), ((q 1), aI K 700 (M_tape (M_tp v))), ((q 2), aI K 20 (M_number (M_cd v))), ((q 3), aZ K 5 (M_isTold (M_rd v))), ((q 4), aI K 80 (M_codeSort (M_cd v))), ((q 5), aI K 80 (M_codeA (M_cd v))), ((q 6), aI K 80 (M_codeB (M_cd v))), ((q 7), aI K 80 (M_codeC (M_cd v))), ((q 8), aI K 80 (M_codeName (M_cd v))), ((q 9), aI K 80 (M_codePlace (M_cd v))), ((q 10), aI K 80 (M_codeTo (M_cd v))), ((q 11), aI K 280 (M_labelName (M_cd v))), ((q 12), aI K 280 (M_labelAt (M_cd v))), ((q 13), aI K 64 (M_data (M_cd v))), ((q 14), aZ K 32 (M_hasData (M_rd v))), ((q 15), aI K 314 (M_s (M_rn v))), ((q 16), aI K 314 (M_aside (M_ex v))), ((q 17), aI K 314 (M_further (M_ex v))), ((q 18), aI K 314 (M_image (M_im v))), ((q 19), aI K 3 (M_sizeNow (M_rn v))), ((q 20), aI K 8 (M_aloneRegister (M_al v))), ((q 21), aI K 4 (M_aloneReal (M_al v))), ((q 22), aI K 32 (M_aloneMemory (M_al v))), ((q 23), aI K 999 (M_aloneOutput (M_al v)))]) ([(0, .ref (q 0)), (1, .int a1), (2, .int r1), (3, .int x5), (4, .int x6)]) ([]) 21 := by
    clear hf
    intro k21_64 hk21_64 n21
    induction n21 with
    | zero => intro x5 x6 hf; exact (nomatch (show (none : Option (Int32 × T_M)) = some _ from hf))
    | succ n21 ih21 =>
      intro x5 x6 hf
      rw [f_M_leaderLoads_L21] at hf
      refine r_iload (pc := 21) cx dX10_leaderLoads_21 4 rfl ?_
      refine r_aload_n (pc := 23) cx dX10_leaderLoads_23 0 rfl ?_
      refine r_get (pc := 24) cx cf_X10 0 26 rfl (by decide) rfl wd_1342 dX10_leaderLoads_24 ?_
      refine r_bipush (pc := 27) cx dX10_leaderLoads_27 bp_112 ?_
      refine r_iald (pc := 29) cx 15 rfl (by decide) dX10_leaderLoads_29 ?_
      refine r_icmp_ge (pc := 30) (tgt := 64) cx dX10_leaderLoads_30 (by decide) (fun h8 => ?_) (fun h8 => ?_)
      · replace hf := ifp h8 hf
        refine r_loc (loc' := [(0, .ref (q 0)), (1, .int a1), (2, .int r1), (3, .int x5)]) [0, 1, 2, 3] rfl ?_
        exact hk21_64 _ hf
      · replace hf := ifn h8 hf
        refine r_aload_n (pc := 33) cx dX10_leaderLoads_33 0 rfl ?_
        refine r_get (pc := 34) cx cf_X10 0 26 rfl (by decide) rfl wd_1342 dX10_leaderLoads_34 ?_
        refine r_bipush (pc := 37) cx dX10_leaderLoads_37 bp_114 ?_
        refine r_iload (pc := 39) cx dX10_leaderLoads_39 4 rfl ?_
        refine r_iadd (pc := 41) cx dX10_leaderLoads_41 ?_
        replace hf := chk_of hf
        obtain ⟨h9, hf⟩ := hf
        refine r_iald (pc := 42) cx 15 rfl h9 dX10_leaderLoads_42 ?_
        refine r_iload_n (pc := 43) cx dX10_leaderLoads_43 2 rfl ?_
        refine r_icmp_ne (pc := 44) (tgt := 58) cx dX10_leaderLoads_44 (by decide) (fun h10 => ?_) (fun h10 => ?_)
        · replace hf := ifn h10 hf
          replace hf := nm_of hf
          obtain ⟨x11, ex11, hf⟩ := hf
          refine r_iinc (pc := 58) (loc' := [(4, .int x11), (0, .ref (q 0)), (1, .int a1), (2, .int r1), (3, .int x5)]) (v := x11) cx dX10_leaderLoads_58 4 rfl ((congrArg (fun z => x6 + z) ic_1).trans ex11.symm) (by decide) rfl ?_
          refine r_goto (pc := 61) (tgt := 21) cx dX10_leaderLoads_61 (by decide) ?_
          refine r_loc (loc' := [(0, .ref (q 0)), (1, .int a1), (2, .int r1), (3, .int x5), (4, .int x11)]) [1, 2, 3, 4, 0] rfl ?_
          exact ih21 _ _ hf
        · replace hf := ifp h10 hf
          refine r_aload_n (pc := 47) cx dX10_leaderLoads_47 0 rfl ?_
          refine r_get (pc := 48) cx cf_X10 0 26 rfl (by decide) rfl wd_1342 dX10_leaderLoads_48 ?_
          refine r_bipush (pc := 51) cx dX10_leaderLoads_51 bp_122 ?_
          refine r_iload (pc := 53) cx dX10_leaderLoads_53 4 rfl ?_
          refine r_iadd (pc := 55) cx dX10_leaderLoads_55 ?_
          replace hf := chk_of hf
          obtain ⟨h12, hf⟩ := hf
          refine r_iald (pc := 56) cx 15 rfl h12 dX10_leaderLoads_56 ?_
          replace hf := nm_of hf
          obtain ⟨x13, ex13, hf⟩ := hf
          refine r_nm ex13 ?_
          refine r_istore_n (pc := 57) (loc' := [(3, .int x13), (0, .ref (q 0)), (1, .int a1), (2, .int r1), (4, .int x6)]) cx dX10_leaderLoads_57 rfl (by decide) rfl ?_
          replace hf := nm_of hf
          obtain ⟨x14, ex14, hf⟩ := hf
          refine r_iinc (pc := 58) (loc' := [(4, .int x14), (3, .int x13), (0, .ref (q 0)), (1, .int a1), (2, .int r1)]) (v := x14) cx dX10_leaderLoads_58 4 rfl ((congrArg (fun z => x6 + z) ic_1).trans ex14.symm) (by decide) rfl ?_
          refine r_goto (pc := 61) (tgt := 21) cx dX10_leaderLoads_61 (by decide) ?_
          refine r_loc (loc' := [(0, .ref (q 0)), (1, .int a1), (2, .int r1), (3, .int x13), (4, .int x14)]) [2, 3, 4, 1, 0] rfl ?_
          exact ih21 _ _ hf
  refine r_loc (loc' := [(0, .ref (q 0)), (1, .int a1), (2, .int r1), (3, .int x4), (4, .int (0 : Int32))]) [3, 4, 2, 1, 0] rfl ?_
  refine hL21 _ (fun x7 hf => ?_) _ _ _ hf
  refine r_aload_n (pc := 64) cx dX10_leaderLoads_64 0 rfl ?_
  refine r_get (pc := 65) cx cf_X10 0 26 rfl (by decide) rfl wd_1342 dX10_leaderLoads_65 ?_
  refine r_bipush (pc := 68) cx dX10_leaderLoads_68 bp_87 ?_
  refine r_aload_n (pc := 70) cx dX10_leaderLoads_70 0 rfl ?_
  refine r_get (pc := 71) cx cf_X10 0 26 rfl (by decide) rfl wd_1342 dX10_leaderLoads_71 ?_
  refine r_bipush (pc := 74) cx dX10_leaderLoads_74 bp_86 ?_
  refine r_iald (pc := 76) cx 15 rfl (by decide) dX10_leaderLoads_76 ?_
  refine r_iadd (pc := 77) cx dX10_leaderLoads_77 ?_
  refine r_iload_n (pc := 78) cx dX10_leaderLoads_78 2 rfl ?_
  replace hf := chk_of hf
  obtain ⟨h15, hf⟩ := hf
  replace hf := nm_of hf
  obtain ⟨f16, ef16, hf⟩ := hf
  refine r_iast (pc := 79) (ws' := [((q 0), ob 9 [.int (M_thrown v), .ref (q 1), .int (M_taped (M_tp v)), .ref (q 2), .ref (q 3), .ref (q 4), .ref (q 5), .ref (q 6), .ref (q 7), .ref (q 8), .ref (q 9), .ref (q 10), .ref (q 11), .ref (q 12), .ref (q 13), .ref (q 14), .int (M_lines (M_rd v)), .int (M_size (M_rd v)), .int (M_at (M_rd v)), .int (M_place (M_rd v)), .int (M_sort (M_rd v)), .int (M_value (M_rd v)), .int (M_fault (M_rd v)), .int (M_faultPlace (M_rd v)), .int (M_lastFault (M_lf v)), .int (M_lastPlace (M_lf v)), .ref (q 15), .ref (q 16), .ref (q 17), .ref (q 18), .int (M_hasImage (M_im v)), .int (M_spanNow (M_rn v)), .ref (q 19), .int (M_placeThen (M_rn v)), .int (M_alonePlace (M_al v)), .int (M_aloneSteps (M_al v)), .int (M_aloneOut (M_al v)), .ref (q 20), .ref (q 21), .ref (q 22), .ref (q 23), .int (M_shotAlarm (M_ex v)), .int (M_drawn (M_ex v))]), ((q 1), aI K 700 (M_tape (M_tp v))), ((q 2), aI K 20 (M_number (M_cd v))), ((q 3), aZ K 5 (M_isTold (M_rd v))), ((q 4), aI K 80 (M_codeSort (M_cd v))), ((q 5), aI K 80 (M_codeA (M_cd v))), ((q 6), aI K 80 (M_codeB (M_cd v))), ((q 7), aI K 80 (M_codeC (M_cd v))), ((q 8), aI K 80 (M_codeName (M_cd v))), ((q 9), aI K 80 (M_codePlace (M_cd v))), ((q 10), aI K 80 (M_codeTo (M_cd v))), ((q 11), aI K 280 (M_labelName (M_cd v))), ((q 12), aI K 280 (M_labelAt (M_cd v))), ((q 13), aI K 64 (M_data (M_cd v))), ((q 14), aZ K 32 (M_hasData (M_rd v))), ((q 15), aI K 314 f16), ((q 16), aI K 314 (M_aside (M_ex v))), ((q 17), aI K 314 (M_further (M_ex v))), ((q 18), aI K 314 (M_image (M_im v))), ((q 19), aI K 3 (M_sizeNow (M_rn v))), ((q 20), aI K 8 (M_aloneRegister (M_al v))), ((q 21), aI K 4 (M_aloneReal (M_al v))), ((q 22), aI K 32 (M_aloneMemory (M_al v))), ((q 23), aI K 999 (M_aloneOutput (M_al v)))]) cx 15 rfl h15 dX10_leaderLoads_79 ef16 rfl ?_
  refine r_aload_n (pc := 80) cx dX10_leaderLoads_80 0 rfl ?_
  refine r_get (pc := 81) cx cf_X10 0 26 rfl (by decide) rfl wd_1342 dX10_leaderLoads_81 ?_
  refine r_bipush (pc := 84) cx dX10_leaderLoads_84 bp_95 ?_
  refine r_aload_n (pc := 86) cx dX10_leaderLoads_86 0 rfl ?_
  refine r_get (pc := 87) cx cf_X10 0 26 rfl (by decide) rfl wd_1342 dX10_leaderLoads_87 ?_
  refine r_bipush (pc := 90) cx dX10_leaderLoads_90 bp_86 ?_
  refine r_iald (pc := 92) cx 15 rfl (by decide) dX10_leaderLoads_92 ?_
  refine r_iadd (pc := 93) cx dX10_leaderLoads_93 ?_
  refine r_iload_n (pc := 94) cx dX10_leaderLoads_94 3 rfl ?_
  replace hf := chk_of hf
  obtain ⟨h17, hf⟩ := hf
  replace hf := nm_of hf
  obtain ⟨f18, ef18, hf⟩ := hf
  refine r_iast (pc := 95) (ws' := [((q 0), ob 9 [.int (M_thrown v), .ref (q 1), .int (M_taped (M_tp v)), .ref (q 2), .ref (q 3), .ref (q 4), .ref (q 5), .ref (q 6), .ref (q 7), .ref (q 8), .ref (q 9), .ref (q 10), .ref (q 11), .ref (q 12), .ref (q 13), .ref (q 14), .int (M_lines (M_rd v)), .int (M_size (M_rd v)), .int (M_at (M_rd v)), .int (M_place (M_rd v)), .int (M_sort (M_rd v)), .int (M_value (M_rd v)), .int (M_fault (M_rd v)), .int (M_faultPlace (M_rd v)), .int (M_lastFault (M_lf v)), .int (M_lastPlace (M_lf v)), .ref (q 15), .ref (q 16), .ref (q 17), .ref (q 18), .int (M_hasImage (M_im v)), .int (M_spanNow (M_rn v)), .ref (q 19), .int (M_placeThen (M_rn v)), .int (M_alonePlace (M_al v)), .int (M_aloneSteps (M_al v)), .int (M_aloneOut (M_al v)), .ref (q 20), .ref (q 21), .ref (q 22), .ref (q 23), .int (M_shotAlarm (M_ex v)), .int (M_drawn (M_ex v))]), ((q 1), aI K 700 (M_tape (M_tp v))), ((q 2), aI K 20 (M_number (M_cd v))), ((q 3), aZ K 5 (M_isTold (M_rd v))), ((q 4), aI K 80 (M_codeSort (M_cd v))), ((q 5), aI K 80 (M_codeA (M_cd v))), ((q 6), aI K 80 (M_codeB (M_cd v))), ((q 7), aI K 80 (M_codeC (M_cd v))), ((q 8), aI K 80 (M_codeName (M_cd v))), ((q 9), aI K 80 (M_codePlace (M_cd v))), ((q 10), aI K 80 (M_codeTo (M_cd v))), ((q 11), aI K 280 (M_labelName (M_cd v))), ((q 12), aI K 280 (M_labelAt (M_cd v))), ((q 13), aI K 64 (M_data (M_cd v))), ((q 14), aZ K 32 (M_hasData (M_rd v))), ((q 15), aI K 314 f18), ((q 16), aI K 314 (M_aside (M_ex v))), ((q 17), aI K 314 (M_further (M_ex v))), ((q 18), aI K 314 (M_image (M_im v))), ((q 19), aI K 3 (M_sizeNow (M_rn v))), ((q 20), aI K 8 (M_aloneRegister (M_al v))), ((q 21), aI K 4 (M_aloneReal (M_al v))), ((q 22), aI K 32 (M_aloneMemory (M_al v))), ((q 23), aI K 999 (M_aloneOutput (M_al v)))]) cx 15 rfl h17 dX10_leaderLoads_95 ef18 rfl ?_
  refine r_aload_n (pc := 96) cx dX10_leaderLoads_96 0 rfl ?_
  refine r_get (pc := 97) cx cf_X10 0 26 rfl (by decide) rfl wd_1342 dX10_leaderLoads_97 ?_
  refine r_bipush (pc := 100) cx dX10_leaderLoads_100 bp_86 ?_
  refine r_dup2 (pc := 102) cx dX10_leaderLoads_102 rfl rfl ?_
  refine r_iald (pc := 103) cx 15 rfl (by decide) dX10_leaderLoads_103 ?_
  refine r_iconst (pc := 104) cx dX10_leaderLoads_104 ic_1 ?_
  refine r_iadd (pc := 105) cx dX10_leaderLoads_105 ?_
  replace hf := nm_of hf
  obtain ⟨x19, ex19, hf⟩ := hf
  refine r_nm ex19 ?_
  replace hf := nm_of hf
  obtain ⟨f20, ef20, hf⟩ := hf
  refine r_iast (pc := 106) (ws' := [((q 0), ob 9 [.int (M_thrown v), .ref (q 1), .int (M_taped (M_tp v)), .ref (q 2), .ref (q 3), .ref (q 4), .ref (q 5), .ref (q 6), .ref (q 7), .ref (q 8), .ref (q 9), .ref (q 10), .ref (q 11), .ref (q 12), .ref (q 13), .ref (q 14), .int (M_lines (M_rd v)), .int (M_size (M_rd v)), .int (M_at (M_rd v)), .int (M_place (M_rd v)), .int (M_sort (M_rd v)), .int (M_value (M_rd v)), .int (M_fault (M_rd v)), .int (M_faultPlace (M_rd v)), .int (M_lastFault (M_lf v)), .int (M_lastPlace (M_lf v)), .ref (q 15), .ref (q 16), .ref (q 17), .ref (q 18), .int (M_hasImage (M_im v)), .int (M_spanNow (M_rn v)), .ref (q 19), .int (M_placeThen (M_rn v)), .int (M_alonePlace (M_al v)), .int (M_aloneSteps (M_al v)), .int (M_aloneOut (M_al v)), .ref (q 20), .ref (q 21), .ref (q 22), .ref (q 23), .int (M_shotAlarm (M_ex v)), .int (M_drawn (M_ex v))]), ((q 1), aI K 700 (M_tape (M_tp v))), ((q 2), aI K 20 (M_number (M_cd v))), ((q 3), aZ K 5 (M_isTold (M_rd v))), ((q 4), aI K 80 (M_codeSort (M_cd v))), ((q 5), aI K 80 (M_codeA (M_cd v))), ((q 6), aI K 80 (M_codeB (M_cd v))), ((q 7), aI K 80 (M_codeC (M_cd v))), ((q 8), aI K 80 (M_codeName (M_cd v))), ((q 9), aI K 80 (M_codePlace (M_cd v))), ((q 10), aI K 80 (M_codeTo (M_cd v))), ((q 11), aI K 280 (M_labelName (M_cd v))), ((q 12), aI K 280 (M_labelAt (M_cd v))), ((q 13), aI K 64 (M_data (M_cd v))), ((q 14), aZ K 32 (M_hasData (M_rd v))), ((q 15), aI K 314 f20), ((q 16), aI K 314 (M_aside (M_ex v))), ((q 17), aI K 314 (M_further (M_ex v))), ((q 18), aI K 314 (M_image (M_im v))), ((q 19), aI K 3 (M_sizeNow (M_rn v))), ((q 20), aI K 8 (M_aloneRegister (M_al v))), ((q 21), aI K 4 (M_aloneReal (M_al v))), ((q 22), aI K 32 (M_aloneMemory (M_al v))), ((q 23), aI K 999 (M_aloneOutput (M_al v)))]) cx 15 rfl (by decide) dX10_leaderLoads_106 ef20 rfl ?_
  refine r_aload_n (pc := 107) cx dX10_leaderLoads_107 0 rfl ?_
  refine r_get (pc := 108) cx cf_X10 0 26 rfl (by decide) rfl wd_1342 dX10_leaderLoads_108 ?_
  refine r_iconst (pc := 111) cx dX10_leaderLoads_111 ic_4 ?_
  refine r_aload_n (pc := 112) cx dX10_leaderLoads_112 0 rfl ?_
  refine r_get (pc := 113) cx cf_X10 0 6 rfl (by decide) rfl wd_1322 dX10_leaderLoads_113 ?_
  refine r_iload_n (pc := 116) cx dX10_leaderLoads_116 1 rfl ?_
  replace hf := chk_of hf
  obtain ⟨h21, hf⟩ := hf
  refine r_iald (pc := 117) cx 5 rfl h21 dX10_leaderLoads_117 ?_
  refine r_iadd (pc := 118) cx dX10_leaderLoads_118 ?_
  refine r_iload_n (pc := 119) cx dX10_leaderLoads_119 3 rfl ?_
  replace hf := chk_of hf
  obtain ⟨h22, hf⟩ := hf
  replace hf := nm_of hf
  obtain ⟨f23, ef23, hf⟩ := hf
  refine r_iast (pc := 120) (ws' := [((q 0), ob 9 [.int (M_thrown v), .ref (q 1), .int (M_taped (M_tp v)), .ref (q 2), .ref (q 3), .ref (q 4), .ref (q 5), .ref (q 6), .ref (q 7), .ref (q 8), .ref (q 9), .ref (q 10), .ref (q 11), .ref (q 12), .ref (q 13), .ref (q 14), .int (M_lines (M_rd v)), .int (M_size (M_rd v)), .int (M_at (M_rd v)), .int (M_place (M_rd v)), .int (M_sort (M_rd v)), .int (M_value (M_rd v)), .int (M_fault (M_rd v)), .int (M_faultPlace (M_rd v)), .int (M_lastFault (M_lf v)), .int (M_lastPlace (M_lf v)), .ref (q 15), .ref (q 16), .ref (q 17), .ref (q 18), .int (M_hasImage (M_im v)), .int (M_spanNow (M_rn v)), .ref (q 19), .int (M_placeThen (M_rn v)), .int (M_alonePlace (M_al v)), .int (M_aloneSteps (M_al v)), .int (M_aloneOut (M_al v)), .ref (q 20), .ref (q 21), .ref (q 22), .ref (q 23), .int (M_shotAlarm (M_ex v)), .int (M_drawn (M_ex v))]), ((q 1), aI K 700 (M_tape (M_tp v))), ((q 2), aI K 20 (M_number (M_cd v))), ((q 3), aZ K 5 (M_isTold (M_rd v))), ((q 4), aI K 80 (M_codeSort (M_cd v))), ((q 5), aI K 80 (M_codeA (M_cd v))), ((q 6), aI K 80 (M_codeB (M_cd v))), ((q 7), aI K 80 (M_codeC (M_cd v))), ((q 8), aI K 80 (M_codeName (M_cd v))), ((q 9), aI K 80 (M_codePlace (M_cd v))), ((q 10), aI K 80 (M_codeTo (M_cd v))), ((q 11), aI K 280 (M_labelName (M_cd v))), ((q 12), aI K 280 (M_labelAt (M_cd v))), ((q 13), aI K 64 (M_data (M_cd v))), ((q 14), aZ K 32 (M_hasData (M_rd v))), ((q 15), aI K 314 f23), ((q 16), aI K 314 (M_aside (M_ex v))), ((q 17), aI K 314 (M_further (M_ex v))), ((q 18), aI K 314 (M_image (M_im v))), ((q 19), aI K 3 (M_sizeNow (M_rn v))), ((q 20), aI K 8 (M_aloneRegister (M_al v))), ((q 21), aI K 4 (M_aloneReal (M_al v))), ((q 22), aI K 32 (M_aloneMemory (M_al v))), ((q 23), aI K 999 (M_aloneOutput (M_al v)))]) cx 15 rfl h22 dX10_leaderLoads_120 ef23 rfl ?_
  refine r_iconst (pc := 121) cx dX10_leaderLoads_121 ic_0 ?_
  have hi := inj2 hf
  exact r_iret (pc := 122) cx hi.1 (by rw [← hi.2]; (try simp only [cl_M, M_tape_mk, M_taped_mk, M_tp_mk, M_lines_mk, M_size_mk, M_at_mk, M_place_mk, M_sort_mk, M_value_mk, M_fault_mk, M_faultPlace_mk, M_isTold_mk, M_hasData_mk, M_rd_mk, M_lastFault_mk, M_lastPlace_mk, M_lf_mk, M_number_mk, M_codeSort_mk, M_codeA_mk, M_codeB_mk, M_codeC_mk, M_codeName_mk, M_codePlace_mk, M_codeTo_mk, M_labelName_mk, M_labelAt_mk, M_data_mk, M_cd_mk, M_s_mk, M_spanNow_mk, M_sizeNow_mk, M_placeThen_mk, M_rn_mk, M_aside_mk, M_further_mk, M_shotAlarm_mk, M_drawn_mk, M_ex_mk, M_image_mk, M_hasImage_mk, M_im_mk, M_alonePlace_mk, M_aloneSteps_mk, M_aloneOut_mk, M_aloneRegister_mk, M_aloneReal_mk, M_aloneMemory_mk, M_aloneOutput_mk, M_al_mk, M_thrown_mk, List.cons_append, List.nil_append, List.append_nil]) <;> rfl) dX10_leaderLoads_122
theorem yv_X10_leaderLoads : YV yX10_leaderLoads cX10_leaderLoads 5 (some .int) 1 := ⟨⟨by decide +kernel, by decide +kernel, by decide +kernel⟩, wd_1610, wd_102, wd_1609, wd_61⟩
