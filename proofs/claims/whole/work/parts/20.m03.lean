def f_M_leaderWhy (v : T_M) : Option (Int32) :=
  (if ((M_s (M_rn v)) (2 : Int32).toNatClampNeg) < (M_spanNow (M_rn v)) then (bd (f_M_isHalted v (0 : Int32)) fun (r2 : Int32) => (if r2 = (0 : Int32) then (bd (f_M_ahead v) fun (r5 : Int32) => (if r5 < ((M_number (M_cd v)) (2 : Int32).toNatClampNeg) then (bd (f_M_isBlocked v (0 : Int32)) fun (r8 : Int32) => (if r8 = (0 : Int32) then (some (0 : Int32)) else (some (4 : Int32)))) else (some (3 : Int32)))) else (some (2 : Int32)))) else (some (1 : Int32)))
abbrev rm_M_leaderWhy : Room := { frames := 2, cells := 0, slots := 0, locals := 42 }
set_option maxRecDepth 100000 in
set_option maxHeartbeats 4000000 in
theorem m_M_leaderWhy (l : Launch) (D : va_G) (K : Nat → ClassId) (q : Nat → Nat) (v : T_M) {r_ : Int32} (hf : f_M_leaderWhy v = some r_) : MI l yX10_leaderWhy cX10_leaderWhy 1 (some .int) rm_M_leaderWhy D K [.ref (q 0)] (cl_M K q v) r_ (cl_M K q v) := by
  refine MI_of (loc0 := [(0, .ref (q 0))]) (by decide +kernel) rfl (Nat.le_of_ble_eq_true rfl) ?_
  intro p e s m args below meth c A cx
  unfold f_M_leaderWhy at hf
  refine r_ws (ws' := [((q 0), ob 9 [.int (M_thrown v), .ref (q 1), .int (M_taped (M_tp v)), .ref (q 2), .ref (q 3), .ref (q 4), .ref (q 5), .ref (q 6), .ref (q 7), .ref (q 8), .ref (q 9), .ref (q 10), .ref (q 11), .ref (q 12), .ref (q 13), .ref (q 14), .int (M_lines (M_rd v)), .int (M_size (M_rd v)), .int (M_at (M_rd v)), .int (M_place (M_rd v)), .int (M_sort (M_rd v)), .int (M_value (M_rd v)), .int (M_fault (M_rd v)), .int (M_faultPlace (M_rd v)), .int (M_lastFault (M_lf v)), .int (M_lastPlace (M_lf v)), .ref (q 15), .ref (q 16), .ref (q 17), .ref (q 18), .int (M_hasImage (M_im v)), .int (M_spanNow (M_rn v)), .ref (q 19), .int (M_placeThen (M_rn v)), .int (M_alonePlace (M_al v)), .int (M_aloneSteps (M_al v)), .int (M_aloneOut (M_al v)), .ref (q 20), .ref (q 21), .ref (q 22), .ref (q 23), .int (M_shotAlarm (M_ex v)), .int (M_drawn (M_ex v))]), ((q 1), aI K 700 (M_tape (M_tp v))), ((q 2), aI K 20 (M_number (M_cd v))), ((q 3), aZ K 5 (M_isTold (M_rd v))), ((q 4), aI K 80 (M_codeSort (M_cd v))), ((q 5), aI K 80 (M_codeA (M_cd v))), ((q 6), aI K 80 (M_codeB (M_cd v))), ((q 7), aI K 80 (M_codeC (M_cd v))), ((q 8), aI K 80 (M_codeName (M_cd v))), ((q 9), aI K 80 (M_codePlace (M_cd v))), ((q 10), aI K 80 (M_codeTo (M_cd v))), ((q 11), aI K 280 (M_labelName (M_cd v))), ((q 12), aI K 280 (M_labelAt (M_cd v))), ((q 13), aI K 64 (M_data (M_cd v))), ((q 14), aZ K 32 (M_hasData (M_rd v))), ((q 15), aI K 314 (M_s (M_rn v))), ((q 16), aI K 314 (M_aside (M_ex v))), ((q 17), aI K 314 (M_further (M_ex v))), ((q 18), aI K 314 (M_image (M_im v))), ((q 19), aI K 3 (M_sizeNow (M_rn v))), ((q 20), aI K 8 (M_aloneRegister (M_al v))), ((q 21), aI K 4 (M_aloneReal (M_al v))), ((q 22), aI K 32 (M_aloneMemory (M_al v))), ((q 23), aI K 999 (M_aloneOutput (M_al v)))]) rfl ?_
  refine r_aload_n (pc := 0) cx dX10_leaderWhy_0 0 rfl ?_
  refine r_get (pc := 1) cx cf_X10 0 26 rfl (by decide) rfl wd_1342 dX10_leaderWhy_1 ?_
  refine r_iconst (pc := 4) cx dX10_leaderWhy_4 ic_2 ?_
  refine r_iald (pc := 5) cx 15 rfl (by decide) dX10_leaderWhy_5 ?_
  refine r_aload_n (pc := 6) cx dX10_leaderWhy_6 0 rfl ?_
  refine r_get (pc := 7) cx cf_X10 0 31 rfl (by decide) rfl wd_1347 dX10_leaderWhy_7 ?_
  refine r_icmp_lt (pc := 10) (tgt := 15) cx dX10_leaderWhy_10 (by decide) (fun h1 => ?_) (fun h1 => ?_)
  · have hf := ifp h1 hf
    refine r_aload_n (pc := 15) cx dX10_leaderWhy_15 0 rfl ?_
    refine r_iconst (pc := 16) cx dX10_leaderWhy_16 ic_0 ?_
    obtain ⟨r2, hc3, hf⟩ := bd_of hf
    refine r_Vi (pc := 17) (ws' := [((q 0), ob 9 [.int (M_thrown v), .ref (q 1), .int (M_taped (M_tp v)), .ref (q 2), .ref (q 3), .ref (q 4), .ref (q 5), .ref (q 6), .ref (q 7), .ref (q 8), .ref (q 9), .ref (q 10), .ref (q 11), .ref (q 12), .ref (q 13), .ref (q 14), .int (M_lines (M_rd v)), .int (M_size (M_rd v)), .int (M_at (M_rd v)), .int (M_place (M_rd v)), .int (M_sort (M_rd v)), .int (M_value (M_rd v)), .int (M_fault (M_rd v)), .int (M_faultPlace (M_rd v)), .int (M_lastFault (M_lf v)), .int (M_lastPlace (M_lf v)), .ref (q 15), .ref (q 16), .ref (q 17), .ref (q 18), .int (M_hasImage (M_im v)), .int (M_spanNow (M_rn v)), .ref (q 19), .int (M_placeThen (M_rn v)), .int (M_alonePlace (M_al v)), .int (M_aloneSteps (M_al v)), .int (M_aloneOut (M_al v)), .ref (q 20), .ref (q 21), .ref (q 22), .ref (q 23), .int (M_shotAlarm (M_ex v)), .int (M_drawn (M_ex v))]), ((q 1), aI K 700 (M_tape (M_tp v))), ((q 2), aI K 20 (M_number (M_cd v))), ((q 3), aZ K 5 (M_isTold (M_rd v))), ((q 4), aI K 80 (M_codeSort (M_cd v))), ((q 5), aI K 80 (M_codeA (M_cd v))), ((q 6), aI K 80 (M_codeB (M_cd v))), ((q 7), aI K 80 (M_codeC (M_cd v))), ((q 8), aI K 80 (M_codeName (M_cd v))), ((q 9), aI K 80 (M_codePlace (M_cd v))), ((q 10), aI K 80 (M_codeTo (M_cd v))), ((q 11), aI K 280 (M_labelName (M_cd v))), ((q 12), aI K 280 (M_labelAt (M_cd v))), ((q 13), aI K 64 (M_data (M_cd v))), ((q 14), aZ K 32 (M_hasData (M_rd v))), ((q 15), aI K 314 (M_s (M_rn v))), ((q 16), aI K 314 (M_aside (M_ex v))), ((q 17), aI K 314 (M_further (M_ex v))), ((q 18), aI K 314 (M_image (M_im v))), ((q 19), aI K 3 (M_sizeNow (M_rn v))), ((q 20), aI K 8 (M_aloneRegister (M_al v))), ((q 21), aI K 4 (M_aloneReal (M_al v))), ((q 22), aI K 32 (M_aloneMemory (M_al v))), ((q 23), aI K 999 (M_aloneOutput (M_al v)))]) (nn := 24) cx [.int (0 : Int32)] [] (m_M_isHalted l D K q v (0 : Int32) hc3) yv_X10_isHalted wd_1580 ⟨rfl, rfl⟩ (by decide) (fr_s (j := 0) rfl rfl rfl (fr_s (j := 1) rfl rfl rfl (fr_s (j := 2) rfl rfl rfl (fr_s (j := 3) rfl rfl rfl (fr_s (j := 4) rfl rfl rfl (fr_s (j := 5) rfl rfl rfl (fr_s (j := 6) rfl rfl rfl (fr_s (j := 7) rfl rfl rfl (fr_s (j := 8) rfl rfl rfl (fr_s (j := 9) rfl rfl rfl (fr_s (j := 10) rfl rfl rfl (fr_s (j := 11) rfl rfl rfl (fr_s (j := 12) rfl rfl rfl (fr_s (j := 13) rfl rfl rfl (fr_s (j := 14) rfl rfl rfl (fr_s (j := 15) rfl rfl rfl (fr_s (j := 16) rfl rfl rfl (fr_s (j := 17) rfl rfl rfl (fr_s (j := 18) rfl rfl rfl (fr_s (j := 19) rfl rfl rfl (fr_s (j := 20) rfl rfl rfl (fr_s (j := 21) rfl rfl rfl (fr_s (j := 22) rfl rfl rfl (fr_s (j := 23) rfl rfl rfl (fr_n))))))))))))))))))))))))) rfl (by decide) 0 rfl rfl rfl (Nat.le_of_ble_eq_true rfl) dX10_leaderWhy_17 ?_
    refine r_if_eq (pc := 20) (tgt := 25) cx dX10_leaderWhy_20 (by decide) (fun h4 => ?_) (fun h4 => ?_)
    · have hf := ifp h4 hf
      refine r_aload_n (pc := 25) cx dX10_leaderWhy_25 0 rfl ?_
      obtain ⟨r5, hc6, hf⟩ := bd_of hf
      refine r_Vi (pc := 26) (ws' := [((q 0), ob 9 [.int (M_thrown v), .ref (q 1), .int (M_taped (M_tp v)), .ref (q 2), .ref (q 3), .ref (q 4), .ref (q 5), .ref (q 6), .ref (q 7), .ref (q 8), .ref (q 9), .ref (q 10), .ref (q 11), .ref (q 12), .ref (q 13), .ref (q 14), .int (M_lines (M_rd v)), .int (M_size (M_rd v)), .int (M_at (M_rd v)), .int (M_place (M_rd v)), .int (M_sort (M_rd v)), .int (M_value (M_rd v)), .int (M_fault (M_rd v)), .int (M_faultPlace (M_rd v)), .int (M_lastFault (M_lf v)), .int (M_lastPlace (M_lf v)), .ref (q 15), .ref (q 16), .ref (q 17), .ref (q 18), .int (M_hasImage (M_im v)), .int (M_spanNow (M_rn v)), .ref (q 19), .int (M_placeThen (M_rn v)), .int (M_alonePlace (M_al v)), .int (M_aloneSteps (M_al v)), .int (M_aloneOut (M_al v)), .ref (q 20), .ref (q 21), .ref (q 22), .ref (q 23), .int (M_shotAlarm (M_ex v)), .int (M_drawn (M_ex v))]), ((q 1), aI K 700 (M_tape (M_tp v))), ((q 2), aI K 20 (M_number (M_cd v))), ((q 3), aZ K 5 (M_isTold (M_rd v))), ((q 4), aI K 80 (M_codeSort (M_cd v))), ((q 5), aI K 80 (M_codeA (M_cd v))), ((q 6), aI K 80 (M_codeB (M_cd v))), ((q 7), aI K 80 (M_codeC (M_cd v))), ((q 8), aI K 80 (M_codeName (M_cd v))), ((q 9), aI K 80 (M_codePlace (M_cd v))), ((q 10), aI K 80 (M_codeTo (M_cd v))), ((q 11), aI K 280 (M_labelName (M_cd v))), ((q 12), aI K 280 (M_labelAt (M_cd v))), ((q 13), aI K 64 (M_data (M_cd v))), ((q 14), aZ K 32 (M_hasData (M_rd v))), ((q 15), aI K 314 (M_s (M_rn v))), ((q 16), aI K 314 (M_aside (M_ex v))), ((q 17), aI K 314 (M_further (M_ex v))), ((q 18), aI K 314 (M_image (M_im v))), ((q 19), aI K 3 (M_sizeNow (M_rn v))), ((q 20), aI K 8 (M_aloneRegister (M_al v))), ((q 21), aI K 4 (M_aloneReal (M_al v))), ((q 22), aI K 32 (M_aloneMemory (M_al v))), ((q 23), aI K 999 (M_aloneOutput (M_al v)))]) (nn := 24) cx [] [] (m_M_ahead l D K q v hc6) yv_X10_ahead wd_1588 ⟨rfl, rfl⟩ (by decide) (fr_s (j := 0) rfl rfl rfl (fr_s (j := 1) rfl rfl rfl (fr_s (j := 2) rfl rfl rfl (fr_s (j := 3) rfl rfl rfl (fr_s (j := 4) rfl rfl rfl (fr_s (j := 5) rfl rfl rfl (fr_s (j := 6) rfl rfl rfl (fr_s (j := 7) rfl rfl rfl (fr_s (j := 8) rfl rfl rfl (fr_s (j := 9) rfl rfl rfl (fr_s (j := 10) rfl rfl rfl (fr_s (j := 11) rfl rfl rfl (fr_s (j := 12) rfl rfl rfl (fr_s (j := 13) rfl rfl rfl (fr_s (j := 14) rfl rfl rfl (fr_s (j := 15) rfl rfl rfl (fr_s (j := 16) rfl rfl rfl (fr_s (j := 17) rfl rfl rfl (fr_s (j := 18) rfl rfl rfl (fr_s (j := 19) rfl rfl rfl (fr_s (j := 20) rfl rfl rfl (fr_s (j := 21) rfl rfl rfl (fr_s (j := 22) rfl rfl rfl (fr_s (j := 23) rfl rfl rfl (fr_n))))))))))))))))))))))))) rfl (by decide) 0 rfl rfl rfl (Nat.le_of_ble_eq_true rfl) dX10_leaderWhy_26 ?_
      refine r_aload_n (pc := 29) cx dX10_leaderWhy_29 0 rfl ?_
      refine r_get (pc := 30) cx cf_X10 0 3 rfl (by decide) rfl wd_1319 dX10_leaderWhy_30 ?_
      refine r_iconst (pc := 33) cx dX10_leaderWhy_33 ic_2 ?_
      refine r_iald (pc := 34) cx 2 rfl (by decide) dX10_leaderWhy_34 ?_
      refine r_icmp_lt (pc := 35) (tgt := 40) cx dX10_leaderWhy_35 (by decide) (fun h7 => ?_) (fun h7 => ?_)
      · have hf := ifp h7 hf
        refine r_aload_n (pc := 40) cx dX10_leaderWhy_40 0 rfl ?_
        refine r_iconst (pc := 41) cx dX10_leaderWhy_41 ic_0 ?_
        obtain ⟨r8, hc9, hf⟩ := bd_of hf
        refine r_Vi (pc := 42) (ws' := [((q 0), ob 9 [.int (M_thrown v), .ref (q 1), .int (M_taped (M_tp v)), .ref (q 2), .ref (q 3), .ref (q 4), .ref (q 5), .ref (q 6), .ref (q 7), .ref (q 8), .ref (q 9), .ref (q 10), .ref (q 11), .ref (q 12), .ref (q 13), .ref (q 14), .int (M_lines (M_rd v)), .int (M_size (M_rd v)), .int (M_at (M_rd v)), .int (M_place (M_rd v)), .int (M_sort (M_rd v)), .int (M_value (M_rd v)), .int (M_fault (M_rd v)), .int (M_faultPlace (M_rd v)), .int (M_lastFault (M_lf v)), .int (M_lastPlace (M_lf v)), .ref (q 15), .ref (q 16), .ref (q 17), .ref (q 18), .int (M_hasImage (M_im v)), .int (M_spanNow (M_rn v)), .ref (q 19), .int (M_placeThen (M_rn v)), .int (M_alonePlace (M_al v)), .int (M_aloneSteps (M_al v)), .int (M_aloneOut (M_al v)), .ref (q 20), .ref (q 21), .ref (q 22), .ref (q 23), .int (M_shotAlarm (M_ex v)), .int (M_drawn (M_ex v))]), ((q 1), aI K 700 (M_tape (M_tp v))), ((q 2), aI K 20 (M_number (M_cd v))), ((q 3), aZ K 5 (M_isTold (M_rd v))), ((q 4), aI K 80 (M_codeSort (M_cd v))), ((q 5), aI K 80 (M_codeA (M_cd v))), ((q 6), aI K 80 (M_codeB (M_cd v))), ((q 7), aI K 80 (M_codeC (M_cd v))), ((q 8), aI K 80 (M_codeName (M_cd v))), ((q 9), aI K 80 (M_codePlace (M_cd v))), ((q 10), aI K 80 (M_codeTo (M_cd v))), ((q 11), aI K 280 (M_labelName (M_cd v))), ((q 12), aI K 280 (M_labelAt (M_cd v))), ((q 13), aI K 64 (M_data (M_cd v))), ((q 14), aZ K 32 (M_hasData (M_rd v))), ((q 15), aI K 314 (M_s (M_rn v))), ((q 16), aI K 314 (M_aside (M_ex v))), ((q 17), aI K 314 (M_further (M_ex v))), ((q 18), aI K 314 (M_image (M_im v))), ((q 19), aI K 3 (M_sizeNow (M_rn v))), ((q 20), aI K 8 (M_aloneRegister (M_al v))), ((q 21), aI K 4 (M_aloneReal (M_al v))), ((q 22), aI K 32 (M_aloneMemory (M_al v))), ((q 23), aI K 999 (M_aloneOutput (M_al v)))]) (nn := 24) cx [.int (0 : Int32)] [] (m_M_isBlocked l D K q v (0 : Int32) hc9) yv_X10_isBlocked wd_1596 ⟨rfl, rfl⟩ (by decide) (fr_s (j := 0) rfl rfl rfl (fr_s (j := 1) rfl rfl rfl (fr_s (j := 2) rfl rfl rfl (fr_s (j := 3) rfl rfl rfl (fr_s (j := 4) rfl rfl rfl (fr_s (j := 5) rfl rfl rfl (fr_s (j := 6) rfl rfl rfl (fr_s (j := 7) rfl rfl rfl (fr_s (j := 8) rfl rfl rfl (fr_s (j := 9) rfl rfl rfl (fr_s (j := 10) rfl rfl rfl (fr_s (j := 11) rfl rfl rfl (fr_s (j := 12) rfl rfl rfl (fr_s (j := 13) rfl rfl rfl (fr_s (j := 14) rfl rfl rfl (fr_s (j := 15) rfl rfl rfl (fr_s (j := 16) rfl rfl rfl (fr_s (j := 17) rfl rfl rfl (fr_s (j := 18) rfl rfl rfl (fr_s (j := 19) rfl rfl rfl (fr_s (j := 20) rfl rfl rfl (fr_s (j := 21) rfl rfl rfl (fr_s (j := 22) rfl rfl rfl (fr_s (j := 23) rfl rfl rfl (fr_n))))))))))))))))))))))))) rfl (by decide) 0 rfl rfl rfl (Nat.le_of_ble_eq_true rfl) dX10_leaderWhy_42 ?_
        refine r_if_eq (pc := 45) (tgt := 52) cx dX10_leaderWhy_45 (by decide) (fun h10 => ?_) (fun h10 => ?_)
        · have hf := ifp h10 hf
          refine r_iconst (pc := 52) cx dX10_leaderWhy_52 ic_0 ?_
          cases hf
          exact r_iret (pc := 53) cx rfl rfl dX10_leaderWhy_53
        · have hf := ifn h10 hf
          refine r_iconst (pc := 48) cx dX10_leaderWhy_48 ic_4 ?_
          refine r_goto (pc := 49) (tgt := 53) cx dX10_leaderWhy_49 (by decide) ?_
          cases hf
          exact r_iret (pc := 53) cx rfl rfl dX10_leaderWhy_53
      · have hf := ifn h7 hf
        refine r_iconst (pc := 38) cx dX10_leaderWhy_38 ic_3 ?_
        cases hf
        exact r_iret (pc := 39) cx rfl rfl dX10_leaderWhy_39
    · have hf := ifn h4 hf
      refine r_iconst (pc := 23) cx dX10_leaderWhy_23 ic_2 ?_
      cases hf
      exact r_iret (pc := 24) cx rfl rfl dX10_leaderWhy_24
  · have hf := ifn h1 hf
    refine r_iconst (pc := 13) cx dX10_leaderWhy_13 ic_1 ?_
    cases hf
    exact r_iret (pc := 14) cx rfl rfl dX10_leaderWhy_14
theorem yv_X10_leaderWhy : YV yX10_leaderWhy cX10_leaderWhy 1 (some .int) 0 := ⟨⟨by decide +kernel, by decide +kernel, by decide +kernel⟩, wd_1595, wd_102, wd_1594, wd_58⟩
def f_M_trailerWhy (v : T_M) : Option (Int32) :=
  (if ((M_s (M_rn v)) (3 : Int32).toNatClampNeg) < (M_spanNow (M_rn v)) then (bd (f_M_isHalted v (1 : Int32)) fun (r2 : Int32) => (if r2 = (0 : Int32) then (bd (f_M_ahead v) fun (r5 : Int32) => (if r5 < (1 : Int32) then (some (3 : Int32)) else (bd (f_M_ahead v) fun (r8 : Int32) => (if ((M_number (M_cd v)) (1 : Int32).toNatClampNeg) ≤ r8 then (bd (f_M_isBlocked v (1 : Int32)) fun (r11 : Int32) => (if r11 = (0 : Int32) then (some (0 : Int32)) else (some (4 : Int32)))) else (bd (f_M_leaderWhy v) fun (r14 : Int32) => (if r14 = (0 : Int32) then (some (3 : Int32)) else (bd (f_M_isBlocked v (1 : Int32)) fun (r17 : Int32) => (if r17 = (0 : Int32) then (some (0 : Int32)) else (some (4 : Int32)))))))))) else (some (2 : Int32)))) else (some (1 : Int32)))
abbrev rm_M_trailerWhy : Room := { frames := 3, cells := 0, slots := 0, locals := 62 }
set_option maxRecDepth 100000 in
set_option maxHeartbeats 4000000 in
theorem m_M_trailerWhy (l : Launch) (D : va_G) (K : Nat → ClassId) (q : Nat → Nat) (v : T_M) {r_ : Int32} (hf : f_M_trailerWhy v = some r_) : MI l yX10_trailerWhy cX10_trailerWhy 1 (some .int) rm_M_trailerWhy D K [.ref (q 0)] (cl_M K q v) r_ (cl_M K q v) := by
  refine MI_of (loc0 := [(0, .ref (q 0))]) (by decide +kernel) rfl (Nat.le_of_ble_eq_true rfl) ?_
  intro p e s m args below meth c A cx
  unfold f_M_trailerWhy at hf
  refine r_ws (ws' := [((q 0), ob 9 [.int (M_thrown v), .ref (q 1), .int (M_taped (M_tp v)), .ref (q 2), .ref (q 3), .ref (q 4), .ref (q 5), .ref (q 6), .ref (q 7), .ref (q 8), .ref (q 9), .ref (q 10), .ref (q 11), .ref (q 12), .ref (q 13), .ref (q 14), .int (M_lines (M_rd v)), .int (M_size (M_rd v)), .int (M_at (M_rd v)), .int (M_place (M_rd v)), .int (M_sort (M_rd v)), .int (M_value (M_rd v)), .int (M_fault (M_rd v)), .int (M_faultPlace (M_rd v)), .int (M_lastFault (M_lf v)), .int (M_lastPlace (M_lf v)), .ref (q 15), .ref (q 16), .ref (q 17), .ref (q 18), .int (M_hasImage (M_im v)), .int (M_spanNow (M_rn v)), .ref (q 19), .int (M_placeThen (M_rn v)), .int (M_alonePlace (M_al v)), .int (M_aloneSteps (M_al v)), .int (M_aloneOut (M_al v)), .ref (q 20), .ref (q 21), .ref (q 22), .ref (q 23), .int (M_shotAlarm (M_ex v)), .int (M_drawn (M_ex v))]), ((q 1), aI K 700 (M_tape (M_tp v))), ((q 2), aI K 20 (M_number (M_cd v))), ((q 3), aZ K 5 (M_isTold (M_rd v))), ((q 4), aI K 80 (M_codeSort (M_cd v))), ((q 5), aI K 80 (M_codeA (M_cd v))), ((q 6), aI K 80 (M_codeB (M_cd v))), ((q 7), aI K 80 (M_codeC (M_cd v))), ((q 8), aI K 80 (M_codeName (M_cd v))), ((q 9), aI K 80 (M_codePlace (M_cd v))), ((q 10), aI K 80 (M_codeTo (M_cd v))), ((q 11), aI K 280 (M_labelName (M_cd v))), ((q 12), aI K 280 (M_labelAt (M_cd v))), ((q 13), aI K 64 (M_data (M_cd v))), ((q 14), aZ K 32 (M_hasData (M_rd v))), ((q 15), aI K 314 (M_s (M_rn v))), ((q 16), aI K 314 (M_aside (M_ex v))), ((q 17), aI K 314 (M_further (M_ex v))), ((q 18), aI K 314 (M_image (M_im v))), ((q 19), aI K 3 (M_sizeNow (M_rn v))), ((q 20), aI K 8 (M_aloneRegister (M_al v))), ((q 21), aI K 4 (M_aloneReal (M_al v))), ((q 22), aI K 32 (M_aloneMemory (M_al v))), ((q 23), aI K 999 (M_aloneOutput (M_al v)))]) rfl ?_
  refine r_aload_n (pc := 0) cx dX10_trailerWhy_0 0 rfl ?_
  refine r_get (pc := 1) cx cf_X10 0 26 rfl (by decide) rfl wd_1342 dX10_trailerWhy_1 ?_
  refine r_iconst (pc := 4) cx dX10_trailerWhy_4 ic_3 ?_
  refine r_iald (pc := 5) cx 15 rfl (by decide) dX10_trailerWhy_5 ?_
  refine r_aload_n (pc := 6) cx dX10_trailerWhy_6 0 rfl ?_
  refine r_get (pc := 7) cx cf_X10 0 31 rfl (by decide) rfl wd_1347 dX10_trailerWhy_7 ?_
  refine r_icmp_lt (pc := 10) (tgt := 15) cx dX10_trailerWhy_10 (by decide) (fun h1 => ?_) (fun h1 => ?_)
  · have hf := ifp h1 hf
    refine r_aload_n (pc := 15) cx dX10_trailerWhy_15 0 rfl ?_
    refine r_iconst (pc := 16) cx dX10_trailerWhy_16 ic_1 ?_
    obtain ⟨r2, hc3, hf⟩ := bd_of hf
    refine r_Vi (pc := 17) (ws' := [((q 0), ob 9 [.int (M_thrown v), .ref (q 1), .int (M_taped (M_tp v)), .ref (q 2), .ref (q 3), .ref (q 4), .ref (q 5), .ref (q 6), .ref (q 7), .ref (q 8), .ref (q 9), .ref (q 10), .ref (q 11), .ref (q 12), .ref (q 13), .ref (q 14), .int (M_lines (M_rd v)), .int (M_size (M_rd v)), .int (M_at (M_rd v)), .int (M_place (M_rd v)), .int (M_sort (M_rd v)), .int (M_value (M_rd v)), .int (M_fault (M_rd v)), .int (M_faultPlace (M_rd v)), .int (M_lastFault (M_lf v)), .int (M_lastPlace (M_lf v)), .ref (q 15), .ref (q 16), .ref (q 17), .ref (q 18), .int (M_hasImage (M_im v)), .int (M_spanNow (M_rn v)), .ref (q 19), .int (M_placeThen (M_rn v)), .int (M_alonePlace (M_al v)), .int (M_aloneSteps (M_al v)), .int (M_aloneOut (M_al v)), .ref (q 20), .ref (q 21), .ref (q 22), .ref (q 23), .int (M_shotAlarm (M_ex v)), .int (M_drawn (M_ex v))]), ((q 1), aI K 700 (M_tape (M_tp v))), ((q 2), aI K 20 (M_number (M_cd v))), ((q 3), aZ K 5 (M_isTold (M_rd v))), ((q 4), aI K 80 (M_codeSort (M_cd v))), ((q 5), aI K 80 (M_codeA (M_cd v))), ((q 6), aI K 80 (M_codeB (M_cd v))), ((q 7), aI K 80 (M_codeC (M_cd v))), ((q 8), aI K 80 (M_codeName (M_cd v))), ((q 9), aI K 80 (M_codePlace (M_cd v))), ((q 10), aI K 80 (M_codeTo (M_cd v))), ((q 11), aI K 280 (M_labelName (M_cd v))), ((q 12), aI K 280 (M_labelAt (M_cd v))), ((q 13), aI K 64 (M_data (M_cd v))), ((q 14), aZ K 32 (M_hasData (M_rd v))), ((q 15), aI K 314 (M_s (M_rn v))), ((q 16), aI K 314 (M_aside (M_ex v))), ((q 17), aI K 314 (M_further (M_ex v))), ((q 18), aI K 314 (M_image (M_im v))), ((q 19), aI K 3 (M_sizeNow (M_rn v))), ((q 20), aI K 8 (M_aloneRegister (M_al v))), ((q 21), aI K 4 (M_aloneReal (M_al v))), ((q 22), aI K 32 (M_aloneMemory (M_al v))), ((q 23), aI K 999 (M_aloneOutput (M_al v)))]) (nn := 24) cx [.int (1 : Int32)] [] (m_M_isHalted l D K q v (1 : Int32) hc3) yv_X10_isHalted wd_1580 ⟨rfl, rfl⟩ (by decide) (fr_s (j := 0) rfl rfl rfl (fr_s (j := 1) rfl rfl rfl (fr_s (j := 2) rfl rfl rfl (fr_s (j := 3) rfl rfl rfl (fr_s (j := 4) rfl rfl rfl (fr_s (j := 5) rfl rfl rfl (fr_s (j := 6) rfl rfl rfl (fr_s (j := 7) rfl rfl rfl (fr_s (j := 8) rfl rfl rfl (fr_s (j := 9) rfl rfl rfl (fr_s (j := 10) rfl rfl rfl (fr_s (j := 11) rfl rfl rfl (fr_s (j := 12) rfl rfl rfl (fr_s (j := 13) rfl rfl rfl (fr_s (j := 14) rfl rfl rfl (fr_s (j := 15) rfl rfl rfl (fr_s (j := 16) rfl rfl rfl (fr_s (j := 17) rfl rfl rfl (fr_s (j := 18) rfl rfl rfl (fr_s (j := 19) rfl rfl rfl (fr_s (j := 20) rfl rfl rfl (fr_s (j := 21) rfl rfl rfl (fr_s (j := 22) rfl rfl rfl (fr_s (j := 23) rfl rfl rfl (fr_n))))))))))))))))))))))))) rfl (by decide) 0 rfl rfl rfl (Nat.le_of_ble_eq_true rfl) dX10_trailerWhy_17 ?_
    refine r_if_eq (pc := 20) (tgt := 25) cx dX10_trailerWhy_20 (by decide) (fun h4 => ?_) (fun h4 => ?_)
    · have hf := ifp h4 hf
      refine r_aload_n (pc := 25) cx dX10_trailerWhy_25 0 rfl ?_
      obtain ⟨r5, hc6, hf⟩ := bd_of hf
      refine r_Vi (pc := 26) (ws' := [((q 0), ob 9 [.int (M_thrown v), .ref (q 1), .int (M_taped (M_tp v)), .ref (q 2), .ref (q 3), .ref (q 4), .ref (q 5), .ref (q 6), .ref (q 7), .ref (q 8), .ref (q 9), .ref (q 10), .ref (q 11), .ref (q 12), .ref (q 13), .ref (q 14), .int (M_lines (M_rd v)), .int (M_size (M_rd v)), .int (M_at (M_rd v)), .int (M_place (M_rd v)), .int (M_sort (M_rd v)), .int (M_value (M_rd v)), .int (M_fault (M_rd v)), .int (M_faultPlace (M_rd v)), .int (M_lastFault (M_lf v)), .int (M_lastPlace (M_lf v)), .ref (q 15), .ref (q 16), .ref (q 17), .ref (q 18), .int (M_hasImage (M_im v)), .int (M_spanNow (M_rn v)), .ref (q 19), .int (M_placeThen (M_rn v)), .int (M_alonePlace (M_al v)), .int (M_aloneSteps (M_al v)), .int (M_aloneOut (M_al v)), .ref (q 20), .ref (q 21), .ref (q 22), .ref (q 23), .int (M_shotAlarm (M_ex v)), .int (M_drawn (M_ex v))]), ((q 1), aI K 700 (M_tape (M_tp v))), ((q 2), aI K 20 (M_number (M_cd v))), ((q 3), aZ K 5 (M_isTold (M_rd v))), ((q 4), aI K 80 (M_codeSort (M_cd v))), ((q 5), aI K 80 (M_codeA (M_cd v))), ((q 6), aI K 80 (M_codeB (M_cd v))), ((q 7), aI K 80 (M_codeC (M_cd v))), ((q 8), aI K 80 (M_codeName (M_cd v))), ((q 9), aI K 80 (M_codePlace (M_cd v))), ((q 10), aI K 80 (M_codeTo (M_cd v))), ((q 11), aI K 280 (M_labelName (M_cd v))), ((q 12), aI K 280 (M_labelAt (M_cd v))), ((q 13), aI K 64 (M_data (M_cd v))), ((q 14), aZ K 32 (M_hasData (M_rd v))), ((q 15), aI K 314 (M_s (M_rn v))), ((q 16), aI K 314 (M_aside (M_ex v))), ((q 17), aI K 314 (M_further (M_ex v))), ((q 18), aI K 314 (M_image (M_im v))), ((q 19), aI K 3 (M_sizeNow (M_rn v))), ((q 20), aI K 8 (M_aloneRegister (M_al v))), ((q 21), aI K 4 (M_aloneReal (M_al v))), ((q 22), aI K 32 (M_aloneMemory (M_al v))), ((q 23), aI K 999 (M_aloneOutput (M_al v)))]) (nn := 24) cx [] [] (m_M_ahead l D K q v hc6) yv_X10_ahead wd_1588 ⟨rfl, rfl⟩ (by decide) (fr_s (j := 0) rfl rfl rfl (fr_s (j := 1) rfl rfl rfl (fr_s (j := 2) rfl rfl rfl (fr_s (j := 3) rfl rfl rfl (fr_s (j := 4) rfl rfl rfl (fr_s (j := 5) rfl rfl rfl (fr_s (j := 6) rfl rfl rfl (fr_s (j := 7) rfl rfl rfl (fr_s (j := 8) rfl rfl rfl (fr_s (j := 9) rfl rfl rfl (fr_s (j := 10) rfl rfl rfl (fr_s (j := 11) rfl rfl rfl (fr_s (j := 12) rfl rfl rfl (fr_s (j := 13) rfl rfl rfl (fr_s (j := 14) rfl rfl rfl (fr_s (j := 15) rfl rfl rfl (fr_s (j := 16) rfl rfl rfl (fr_s (j := 17) rfl rfl rfl (fr_s (j := 18) rfl rfl rfl (fr_s (j := 19) rfl rfl rfl (fr_s (j := 20) rfl rfl rfl (fr_s (j := 21) rfl rfl rfl (fr_s (j := 22) rfl rfl rfl (fr_s (j := 23) rfl rfl rfl (fr_n))))))))))))))))))))))))) rfl (by decide) 0 rfl rfl rfl (Nat.le_of_ble_eq_true rfl) dX10_trailerWhy_26 ?_
      refine r_iconst (pc := 29) cx dX10_trailerWhy_29 ic_1 ?_
      refine r_icmp_lt (pc := 30) (tgt := 53) cx dX10_trailerWhy_30 (by decide) (fun h7 => ?_) (fun h7 => ?_)
      · have hf := ifp h7 hf
        refine r_iconst (pc := 53) cx dX10_trailerWhy_53 ic_3 ?_
        cases hf
        exact r_iret (pc := 54) cx rfl rfl dX10_trailerWhy_54
      · have hf := ifn h7 hf
        refine r_aload_n (pc := 33) cx dX10_trailerWhy_33 0 rfl ?_
        obtain ⟨r8, hc9, hf⟩ := bd_of hf
        refine r_Vi (pc := 34) (ws' := [((q 0), ob 9 [.int (M_thrown v), .ref (q 1), .int (M_taped (M_tp v)), .ref (q 2), .ref (q 3), .ref (q 4), .ref (q 5), .ref (q 6), .ref (q 7), .ref (q 8), .ref (q 9), .ref (q 10), .ref (q 11), .ref (q 12), .ref (q 13), .ref (q 14), .int (M_lines (M_rd v)), .int (M_size (M_rd v)), .int (M_at (M_rd v)), .int (M_place (M_rd v)), .int (M_sort (M_rd v)), .int (M_value (M_rd v)), .int (M_fault (M_rd v)), .int (M_faultPlace (M_rd v)), .int (M_lastFault (M_lf v)), .int (M_lastPlace (M_lf v)), .ref (q 15), .ref (q 16), .ref (q 17), .ref (q 18), .int (M_hasImage (M_im v)), .int (M_spanNow (M_rn v)), .ref (q 19), .int (M_placeThen (M_rn v)), .int (M_alonePlace (M_al v)), .int (M_aloneSteps (M_al v)), .int (M_aloneOut (M_al v)), .ref (q 20), .ref (q 21), .ref (q 22), .ref (q 23), .int (M_shotAlarm (M_ex v)), .int (M_drawn (M_ex v))]), ((q 1), aI K 700 (M_tape (M_tp v))), ((q 2), aI K 20 (M_number (M_cd v))), ((q 3), aZ K 5 (M_isTold (M_rd v))), ((q 4), aI K 80 (M_codeSort (M_cd v))), ((q 5), aI K 80 (M_codeA (M_cd v))), ((q 6), aI K 80 (M_codeB (M_cd v))), ((q 7), aI K 80 (M_codeC (M_cd v))), ((q 8), aI K 80 (M_codeName (M_cd v))), ((q 9), aI K 80 (M_codePlace (M_cd v))), ((q 10), aI K 80 (M_codeTo (M_cd v))), ((q 11), aI K 280 (M_labelName (M_cd v))), ((q 12), aI K 280 (M_labelAt (M_cd v))), ((q 13), aI K 64 (M_data (M_cd v))), ((q 14), aZ K 32 (M_hasData (M_rd v))), ((q 15), aI K 314 (M_s (M_rn v))), ((q 16), aI K 314 (M_aside (M_ex v))), ((q 17), aI K 314 (M_further (M_ex v))), ((q 18), aI K 314 (M_image (M_im v))), ((q 19), aI K 3 (M_sizeNow (M_rn v))), ((q 20), aI K 8 (M_aloneRegister (M_al v))), ((q 21), aI K 4 (M_aloneReal (M_al v))), ((q 22), aI K 32 (M_aloneMemory (M_al v))), ((q 23), aI K 999 (M_aloneOutput (M_al v)))]) (nn := 24) cx [] [] (m_M_ahead l D K q v hc9) yv_X10_ahead wd_1588 ⟨rfl, rfl⟩ (by decide) (fr_s (j := 0) rfl rfl rfl (fr_s (j := 1) rfl rfl rfl (fr_s (j := 2) rfl rfl rfl (fr_s (j := 3) rfl rfl rfl (fr_s (j := 4) rfl rfl rfl (fr_s (j := 5) rfl rfl rfl (fr_s (j := 6) rfl rfl rfl (fr_s (j := 7) rfl rfl rfl (fr_s (j := 8) rfl rfl rfl (fr_s (j := 9) rfl rfl rfl (fr_s (j := 10) rfl rfl rfl (fr_s (j := 11) rfl rfl rfl (fr_s (j := 12) rfl rfl rfl (fr_s (j := 13) rfl rfl rfl (fr_s (j := 14) rfl rfl rfl (fr_s (j := 15) rfl rfl rfl (fr_s (j := 16) rfl rfl rfl (fr_s (j := 17) rfl rfl rfl (fr_s (j := 18) rfl rfl rfl (fr_s (j := 19) rfl rfl rfl (fr_s (j := 20) rfl rfl rfl (fr_s (j := 21) rfl rfl rfl (fr_s (j := 22) rfl rfl rfl (fr_s (j := 23) rfl rfl rfl (fr_n))))))))))))))))))))))))) rfl (by decide) 0 rfl rfl rfl (Nat.le_of_ble_eq_true rfl) dX10_trailerWhy_34 ?_
        refine r_aload_n (pc := 37) cx dX10_trailerWhy_37 0 rfl ?_
        refine r_get (pc := 38) cx cf_X10 0 3 rfl (by decide) rfl wd_1319 dX10_trailerWhy_38 ?_
        refine r_iconst (pc := 41) cx dX10_trailerWhy_41 ic_1 ?_
        refine r_iald (pc := 42) cx 2 rfl (by decide) dX10_trailerWhy_42 ?_
        refine r_icmp_ge (pc := 43) (tgt := 55) cx dX10_trailerWhy_43 (by decide) (fun h10 => ?_) (fun h10 => ?_)
        · have hf := ifp h10 hf
          refine r_aload_n (pc := 55) cx dX10_trailerWhy_55 0 rfl ?_
          refine r_iconst (pc := 56) cx dX10_trailerWhy_56 ic_1 ?_
          obtain ⟨r11, hc12, hf⟩ := bd_of hf
          refine r_Vi (pc := 57) (ws' := [((q 0), ob 9 [.int (M_thrown v), .ref (q 1), .int (M_taped (M_tp v)), .ref (q 2), .ref (q 3), .ref (q 4), .ref (q 5), .ref (q 6), .ref (q 7), .ref (q 8), .ref (q 9), .ref (q 10), .ref (q 11), .ref (q 12), .ref (q 13), .ref (q 14), .int (M_lines (M_rd v)), .int (M_size (M_rd v)), .int (M_at (M_rd v)), .int (M_place (M_rd v)), .int (M_sort (M_rd v)), .int (M_value (M_rd v)), .int (M_fault (M_rd v)), .int (M_faultPlace (M_rd v)), .int (M_lastFault (M_lf v)), .int (M_lastPlace (M_lf v)), .ref (q 15), .ref (q 16), .ref (q 17), .ref (q 18), .int (M_hasImage (M_im v)), .int (M_spanNow (M_rn v)), .ref (q 19), .int (M_placeThen (M_rn v)), .int (M_alonePlace (M_al v)), .int (M_aloneSteps (M_al v)), .int (M_aloneOut (M_al v)), .ref (q 20), .ref (q 21), .ref (q 22), .ref (q 23), .int (M_shotAlarm (M_ex v)), .int (M_drawn (M_ex v))]), ((q 1), aI K 700 (M_tape (M_tp v))), ((q 2), aI K 20 (M_number (M_cd v))), ((q 3), aZ K 5 (M_isTold (M_rd v))), ((q 4), aI K 80 (M_codeSort (M_cd v))), ((q 5), aI K 80 (M_codeA (M_cd v))), ((q 6), aI K 80 (M_codeB (M_cd v))), ((q 7), aI K 80 (M_codeC (M_cd v))), ((q 8), aI K 80 (M_codeName (M_cd v))), ((q 9), aI K 80 (M_codePlace (M_cd v))), ((q 10), aI K 80 (M_codeTo (M_cd v))), ((q 11), aI K 280 (M_labelName (M_cd v))), ((q 12), aI K 280 (M_labelAt (M_cd v))), ((q 13), aI K 64 (M_data (M_cd v))), ((q 14), aZ K 32 (M_hasData (M_rd v))), ((q 15), aI K 314 (M_s (M_rn v))), ((q 16), aI K 314 (M_aside (M_ex v))), ((q 17), aI K 314 (M_further (M_ex v))), ((q 18), aI K 314 (M_image (M_im v))), ((q 19), aI K 3 (M_sizeNow (M_rn v))), ((q 20), aI K 8 (M_aloneRegister (M_al v))), ((q 21), aI K 4 (M_aloneReal (M_al v))), ((q 22), aI K 32 (M_aloneMemory (M_al v))), ((q 23), aI K 999 (M_aloneOutput (M_al v)))]) (nn := 24) cx [.int (1 : Int32)] [] (m_M_isBlocked l D K q v (1 : Int32) hc12) yv_X10_isBlocked wd_1596 ⟨rfl, rfl⟩ (by decide) (fr_s (j := 0) rfl rfl rfl (fr_s (j := 1) rfl rfl rfl (fr_s (j := 2) rfl rfl rfl (fr_s (j := 3) rfl rfl rfl (fr_s (j := 4) rfl rfl rfl (fr_s (j := 5) rfl rfl rfl (fr_s (j := 6) rfl rfl rfl (fr_s (j := 7) rfl rfl rfl (fr_s (j := 8) rfl rfl rfl (fr_s (j := 9) rfl rfl rfl (fr_s (j := 10) rfl rfl rfl (fr_s (j := 11) rfl rfl rfl (fr_s (j := 12) rfl rfl rfl (fr_s (j := 13) rfl rfl rfl (fr_s (j := 14) rfl rfl rfl (fr_s (j := 15) rfl rfl rfl (fr_s (j := 16) rfl rfl rfl (fr_s (j := 17) rfl rfl rfl (fr_s (j := 18) rfl rfl rfl (fr_s (j := 19) rfl rfl rfl (fr_s (j := 20) rfl rfl rfl (fr_s (j := 21) rfl rfl rfl (fr_s (j := 22) rfl rfl rfl (fr_s (j := 23) rfl rfl rfl (fr_n))))))))))))))))))))))))) rfl (by decide) 0 rfl rfl rfl (Nat.le_of_ble_eq_true rfl) dX10_trailerWhy_57 ?_
          refine r_if_eq (pc := 60) (tgt := 67) cx dX10_trailerWhy_60 (by decide) (fun h13 => ?_) (fun h13 => ?_)
          · have hf := ifp h13 hf
            refine r_iconst (pc := 67) cx dX10_trailerWhy_67 ic_0 ?_
            cases hf
            exact r_iret (pc := 68) cx rfl rfl dX10_trailerWhy_68
          · have hf := ifn h13 hf
            refine r_iconst (pc := 63) cx dX10_trailerWhy_63 ic_4 ?_
            refine r_goto (pc := 64) (tgt := 68) cx dX10_trailerWhy_64 (by decide) ?_
            cases hf
            exact r_iret (pc := 68) cx rfl rfl dX10_trailerWhy_68
        · have hf := ifn h10 hf
          refine r_aload_n (pc := 46) cx dX10_trailerWhy_46 0 rfl ?_
          obtain ⟨r14, hc15, hf⟩ := bd_of hf
          refine r_Vi (pc := 47) (ws' := [((q 0), ob 9 [.int (M_thrown v), .ref (q 1), .int (M_taped (M_tp v)), .ref (q 2), .ref (q 3), .ref (q 4), .ref (q 5), .ref (q 6), .ref (q 7), .ref (q 8), .ref (q 9), .ref (q 10), .ref (q 11), .ref (q 12), .ref (q 13), .ref (q 14), .int (M_lines (M_rd v)), .int (M_size (M_rd v)), .int (M_at (M_rd v)), .int (M_place (M_rd v)), .int (M_sort (M_rd v)), .int (M_value (M_rd v)), .int (M_fault (M_rd v)), .int (M_faultPlace (M_rd v)), .int (M_lastFault (M_lf v)), .int (M_lastPlace (M_lf v)), .ref (q 15), .ref (q 16), .ref (q 17), .ref (q 18), .int (M_hasImage (M_im v)), .int (M_spanNow (M_rn v)), .ref (q 19), .int (M_placeThen (M_rn v)), .int (M_alonePlace (M_al v)), .int (M_aloneSteps (M_al v)), .int (M_aloneOut (M_al v)), .ref (q 20), .ref (q 21), .ref (q 22), .ref (q 23), .int (M_shotAlarm (M_ex v)), .int (M_drawn (M_ex v))]), ((q 1), aI K 700 (M_tape (M_tp v))), ((q 2), aI K 20 (M_number (M_cd v))), ((q 3), aZ K 5 (M_isTold (M_rd v))), ((q 4), aI K 80 (M_codeSort (M_cd v))), ((q 5), aI K 80 (M_codeA (M_cd v))), ((q 6), aI K 80 (M_codeB (M_cd v))), ((q 7), aI K 80 (M_codeC (M_cd v))), ((q 8), aI K 80 (M_codeName (M_cd v))), ((q 9), aI K 80 (M_codePlace (M_cd v))), ((q 10), aI K 80 (M_codeTo (M_cd v))), ((q 11), aI K 280 (M_labelName (M_cd v))), ((q 12), aI K 280 (M_labelAt (M_cd v))), ((q 13), aI K 64 (M_data (M_cd v))), ((q 14), aZ K 32 (M_hasData (M_rd v))), ((q 15), aI K 314 (M_s (M_rn v))), ((q 16), aI K 314 (M_aside (M_ex v))), ((q 17), aI K 314 (M_further (M_ex v))), ((q 18), aI K 314 (M_image (M_im v))), ((q 19), aI K 3 (M_sizeNow (M_rn v))), ((q 20), aI K 8 (M_aloneRegister (M_al v))), ((q 21), aI K 4 (M_aloneReal (M_al v))), ((q 22), aI K 32 (M_aloneMemory (M_al v))), ((q 23), aI K 999 (M_aloneOutput (M_al v)))]) (nn := 24) cx [] [] (m_M_leaderWhy l D K q v hc15) yv_X10_leaderWhy wd_1592 ⟨rfl, rfl⟩ (by decide) (fr_s (j := 0) rfl rfl rfl (fr_s (j := 1) rfl rfl rfl (fr_s (j := 2) rfl rfl rfl (fr_s (j := 3) rfl rfl rfl (fr_s (j := 4) rfl rfl rfl (fr_s (j := 5) rfl rfl rfl (fr_s (j := 6) rfl rfl rfl (fr_s (j := 7) rfl rfl rfl (fr_s (j := 8) rfl rfl rfl (fr_s (j := 9) rfl rfl rfl (fr_s (j := 10) rfl rfl rfl (fr_s (j := 11) rfl rfl rfl (fr_s (j := 12) rfl rfl rfl (fr_s (j := 13) rfl rfl rfl (fr_s (j := 14) rfl rfl rfl (fr_s (j := 15) rfl rfl rfl (fr_s (j := 16) rfl rfl rfl (fr_s (j := 17) rfl rfl rfl (fr_s (j := 18) rfl rfl rfl (fr_s (j := 19) rfl rfl rfl (fr_s (j := 20) rfl rfl rfl (fr_s (j := 21) rfl rfl rfl (fr_s (j := 22) rfl rfl rfl (fr_s (j := 23) rfl rfl rfl (fr_n))))))))))))))))))))))))) rfl (by decide) 0 rfl rfl rfl (Nat.le_of_ble_eq_true rfl) dX10_trailerWhy_47 ?_
          refine r_if_ne (pc := 50) (tgt := 55) cx dX10_trailerWhy_50 (by decide) (fun h16 => ?_) (fun h16 => ?_)
          · have hf := ifn h16 hf
            refine r_aload_n (pc := 55) cx dX10_trailerWhy_55 0 rfl ?_
            refine r_iconst (pc := 56) cx dX10_trailerWhy_56 ic_1 ?_
            obtain ⟨r17, hc18, hf⟩ := bd_of hf
            refine r_Vi (pc := 57) (ws' := [((q 0), ob 9 [.int (M_thrown v), .ref (q 1), .int (M_taped (M_tp v)), .ref (q 2), .ref (q 3), .ref (q 4), .ref (q 5), .ref (q 6), .ref (q 7), .ref (q 8), .ref (q 9), .ref (q 10), .ref (q 11), .ref (q 12), .ref (q 13), .ref (q 14), .int (M_lines (M_rd v)), .int (M_size (M_rd v)), .int (M_at (M_rd v)), .int (M_place (M_rd v)), .int (M_sort (M_rd v)), .int (M_value (M_rd v)), .int (M_fault (M_rd v)), .int (M_faultPlace (M_rd v)), .int (M_lastFault (M_lf v)), .int (M_lastPlace (M_lf v)), .ref (q 15), .ref (q 16), .ref (q 17), .ref (q 18), .int (M_hasImage (M_im v)), .int (M_spanNow (M_rn v)), .ref (q 19), .int (M_placeThen (M_rn v)), .int (M_alonePlace (M_al v)), .int (M_aloneSteps (M_al v)), .int (M_aloneOut (M_al v)), .ref (q 20), .ref (q 21), .ref (q 22), .ref (q 23), .int (M_shotAlarm (M_ex v)), .int (M_drawn (M_ex v))]), ((q 1), aI K 700 (M_tape (M_tp v))), ((q 2), aI K 20 (M_number (M_cd v))), ((q 3), aZ K 5 (M_isTold (M_rd v))), ((q 4), aI K 80 (M_codeSort (M_cd v))), ((q 5), aI K 80 (M_codeA (M_cd v))), ((q 6), aI K 80 (M_codeB (M_cd v))), ((q 7), aI K 80 (M_codeC (M_cd v))), ((q 8), aI K 80 (M_codeName (M_cd v))), ((q 9), aI K 80 (M_codePlace (M_cd v))), ((q 10), aI K 80 (M_codeTo (M_cd v))), ((q 11), aI K 280 (M_labelName (M_cd v))), ((q 12), aI K 280 (M_labelAt (M_cd v))), ((q 13), aI K 64 (M_data (M_cd v))), ((q 14), aZ K 32 (M_hasData (M_rd v))), ((q 15), aI K 314 (M_s (M_rn v))), ((q 16), aI K 314 (M_aside (M_ex v))), ((q 17), aI K 314 (M_further (M_ex v))), ((q 18), aI K 314 (M_image (M_im v))), ((q 19), aI K 3 (M_sizeNow (M_rn v))), ((q 20), aI K 8 (M_aloneRegister (M_al v))), ((q 21), aI K 4 (M_aloneReal (M_al v))), ((q 22), aI K 32 (M_aloneMemory (M_al v))), ((q 23), aI K 999 (M_aloneOutput (M_al v)))]) (nn := 24) cx [.int (1 : Int32)] [] (m_M_isBlocked l D K q v (1 : Int32) hc18) yv_X10_isBlocked wd_1596 ⟨rfl, rfl⟩ (by decide) (fr_s (j := 0) rfl rfl rfl (fr_s (j := 1) rfl rfl rfl (fr_s (j := 2) rfl rfl rfl (fr_s (j := 3) rfl rfl rfl (fr_s (j := 4) rfl rfl rfl (fr_s (j := 5) rfl rfl rfl (fr_s (j := 6) rfl rfl rfl (fr_s (j := 7) rfl rfl rfl (fr_s (j := 8) rfl rfl rfl (fr_s (j := 9) rfl rfl rfl (fr_s (j := 10) rfl rfl rfl (fr_s (j := 11) rfl rfl rfl (fr_s (j := 12) rfl rfl rfl (fr_s (j := 13) rfl rfl rfl (fr_s (j := 14) rfl rfl rfl (fr_s (j := 15) rfl rfl rfl (fr_s (j := 16) rfl rfl rfl (fr_s (j := 17) rfl rfl rfl (fr_s (j := 18) rfl rfl rfl (fr_s (j := 19) rfl rfl rfl (fr_s (j := 20) rfl rfl rfl (fr_s (j := 21) rfl rfl rfl (fr_s (j := 22) rfl rfl rfl (fr_s (j := 23) rfl rfl rfl (fr_n))))))))))))))))))))))))) rfl (by decide) 0 rfl rfl rfl (Nat.le_of_ble_eq_true rfl) dX10_trailerWhy_57 ?_
            refine r_if_eq (pc := 60) (tgt := 67) cx dX10_trailerWhy_60 (by decide) (fun h19 => ?_) (fun h19 => ?_)
            · have hf := ifp h19 hf
              refine r_iconst (pc := 67) cx dX10_trailerWhy_67 ic_0 ?_
              cases hf
              exact r_iret (pc := 68) cx rfl rfl dX10_trailerWhy_68
            · have hf := ifn h19 hf
              refine r_iconst (pc := 63) cx dX10_trailerWhy_63 ic_4 ?_
              refine r_goto (pc := 64) (tgt := 68) cx dX10_trailerWhy_64 (by decide) ?_
              cases hf
              exact r_iret (pc := 68) cx rfl rfl dX10_trailerWhy_68
          · have hf := ifp h16 hf
            refine r_iconst (pc := 53) cx dX10_trailerWhy_53 ic_3 ?_
            cases hf
            exact r_iret (pc := 54) cx rfl rfl dX10_trailerWhy_54
    · have hf := ifn h4 hf
      refine r_iconst (pc := 23) cx dX10_trailerWhy_23 ic_2 ?_
      cases hf
      exact r_iret (pc := 24) cx rfl rfl dX10_trailerWhy_24
  · have hf := ifn h1 hf
    refine r_iconst (pc := 13) cx dX10_trailerWhy_13 ic_1 ?_
    cases hf
    exact r_iret (pc := 14) cx rfl rfl dX10_trailerWhy_14
theorem yv_X10_trailerWhy : YV yX10_trailerWhy cX10_trailerWhy 1 (some .int) 0 := ⟨⟨by decide +kernel, by decide +kernel, by decide +kernel⟩, wd_1579, wd_102, wd_1578, wd_54⟩
def f_M_why (v : T_M) (a1 : Int32) : Option (Int32) :=
  (if a1 = (0 : Int32) then (bd (f_M_leaderWhy v) fun (r4 : Int32) => (some r4)) else (bd (f_M_trailerWhy v) fun (r2 : Int32) => (some r2)))
abbrev rm_M_why : Room := { frames := 4, cells := 0, slots := 0, locals := 82 }
set_option maxRecDepth 100000 in
set_option maxHeartbeats 4000000 in
theorem m_M_why (l : Launch) (D : va_G) (K : Nat → ClassId) (q : Nat → Nat) (v : T_M) (a1 : Int32) {r_ : Int32} (hf : f_M_why v a1 = some r_) : MI l yX10_why cX10_why 2 (some .int) rm_M_why D K [.ref (q 0), .int a1] (cl_M K q v) r_ (cl_M K q v) := by
  refine MI_of (loc0 := [(0, .ref (q 0)), (1, .int a1)]) (by decide +kernel) rfl (Nat.le_of_ble_eq_true rfl) ?_
  intro p e s m args below meth c A cx
  unfold f_M_why at hf
  refine r_ws (ws' := [((q 0), ob 9 [.int (M_thrown v), .ref (q 1), .int (M_taped (M_tp v)), .ref (q 2), .ref (q 3), .ref (q 4), .ref (q 5), .ref (q 6), .ref (q 7), .ref (q 8), .ref (q 9), .ref (q 10), .ref (q 11), .ref (q 12), .ref (q 13), .ref (q 14), .int (M_lines (M_rd v)), .int (M_size (M_rd v)), .int (M_at (M_rd v)), .int (M_place (M_rd v)), .int (M_sort (M_rd v)), .int (M_value (M_rd v)), .int (M_fault (M_rd v)), .int (M_faultPlace (M_rd v)), .int (M_lastFault (M_lf v)), .int (M_lastPlace (M_lf v)), .ref (q 15), .ref (q 16), .ref (q 17), .ref (q 18), .int (M_hasImage (M_im v)), .int (M_spanNow (M_rn v)), .ref (q 19), .int (M_placeThen (M_rn v)), .int (M_alonePlace (M_al v)), .int (M_aloneSteps (M_al v)), .int (M_aloneOut (M_al v)), .ref (q 20), .ref (q 21), .ref (q 22), .ref (q 23), .int (M_shotAlarm (M_ex v)), .int (M_drawn (M_ex v))]), ((q 1), aI K 700 (M_tape (M_tp v))), ((q 2), aI K 20 (M_number (M_cd v))), ((q 3), aZ K 5 (M_isTold (M_rd v))), ((q 4), aI K 80 (M_codeSort (M_cd v))), ((q 5), aI K 80 (M_codeA (M_cd v))), ((q 6), aI K 80 (M_codeB (M_cd v))), ((q 7), aI K 80 (M_codeC (M_cd v))), ((q 8), aI K 80 (M_codeName (M_cd v))), ((q 9), aI K 80 (M_codePlace (M_cd v))), ((q 10), aI K 80 (M_codeTo (M_cd v))), ((q 11), aI K 280 (M_labelName (M_cd v))), ((q 12), aI K 280 (M_labelAt (M_cd v))), ((q 13), aI K 64 (M_data (M_cd v))), ((q 14), aZ K 32 (M_hasData (M_rd v))), ((q 15), aI K 314 (M_s (M_rn v))), ((q 16), aI K 314 (M_aside (M_ex v))), ((q 17), aI K 314 (M_further (M_ex v))), ((q 18), aI K 314 (M_image (M_im v))), ((q 19), aI K 3 (M_sizeNow (M_rn v))), ((q 20), aI K 8 (M_aloneRegister (M_al v))), ((q 21), aI K 4 (M_aloneReal (M_al v))), ((q 22), aI K 32 (M_aloneMemory (M_al v))), ((q 23), aI K 999 (M_aloneOutput (M_al v)))]) rfl ?_
  refine r_iload_n (pc := 0) cx dX10_why_0 1 rfl ?_
  refine r_if_ne (pc := 1) (tgt := 11) cx dX10_why_1 (by decide) (fun h1 => ?_) (fun h1 => ?_)
  · have hf := ifn h1 hf
    refine r_aload_n (pc := 11) cx dX10_why_11 0 rfl ?_
    obtain ⟨r2, hc3, hf⟩ := bd_of hf
    refine r_Vi (pc := 12) (ws' := [((q 0), ob 9 [.int (M_thrown v), .ref (q 1), .int (M_taped (M_tp v)), .ref (q 2), .ref (q 3), .ref (q 4), .ref (q 5), .ref (q 6), .ref (q 7), .ref (q 8), .ref (q 9), .ref (q 10), .ref (q 11), .ref (q 12), .ref (q 13), .ref (q 14), .int (M_lines (M_rd v)), .int (M_size (M_rd v)), .int (M_at (M_rd v)), .int (M_place (M_rd v)), .int (M_sort (M_rd v)), .int (M_value (M_rd v)), .int (M_fault (M_rd v)), .int (M_faultPlace (M_rd v)), .int (M_lastFault (M_lf v)), .int (M_lastPlace (M_lf v)), .ref (q 15), .ref (q 16), .ref (q 17), .ref (q 18), .int (M_hasImage (M_im v)), .int (M_spanNow (M_rn v)), .ref (q 19), .int (M_placeThen (M_rn v)), .int (M_alonePlace (M_al v)), .int (M_aloneSteps (M_al v)), .int (M_aloneOut (M_al v)), .ref (q 20), .ref (q 21), .ref (q 22), .ref (q 23), .int (M_shotAlarm (M_ex v)), .int (M_drawn (M_ex v))]), ((q 1), aI K 700 (M_tape (M_tp v))), ((q 2), aI K 20 (M_number (M_cd v))), ((q 3), aZ K 5 (M_isTold (M_rd v))), ((q 4), aI K 80 (M_codeSort (M_cd v))), ((q 5), aI K 80 (M_codeA (M_cd v))), ((q 6), aI K 80 (M_codeB (M_cd v))), ((q 7), aI K 80 (M_codeC (M_cd v))), ((q 8), aI K 80 (M_codeName (M_cd v))), ((q 9), aI K 80 (M_codePlace (M_cd v))), ((q 10), aI K 80 (M_codeTo (M_cd v))), ((q 11), aI K 280 (M_labelName (M_cd v))), ((q 12), aI K 280 (M_labelAt (M_cd v))), ((q 13), aI K 64 (M_data (M_cd v))), ((q 14), aZ K 32 (M_hasData (M_rd v))), ((q 15), aI K 314 (M_s (M_rn v))), ((q 16), aI K 314 (M_aside (M_ex v))), ((q 17), aI K 314 (M_further (M_ex v))), ((q 18), aI K 314 (M_image (M_im v))), ((q 19), aI K 3 (M_sizeNow (M_rn v))), ((q 20), aI K 8 (M_aloneRegister (M_al v))), ((q 21), aI K 4 (M_aloneReal (M_al v))), ((q 22), aI K 32 (M_aloneMemory (M_al v))), ((q 23), aI K 999 (M_aloneOutput (M_al v)))]) (nn := 24) cx [] [] (m_M_trailerWhy l D K q v hc3) yv_X10_trailerWhy wd_1576 ⟨rfl, rfl⟩ (by decide) (fr_s (j := 0) rfl rfl rfl (fr_s (j := 1) rfl rfl rfl (fr_s (j := 2) rfl rfl rfl (fr_s (j := 3) rfl rfl rfl (fr_s (j := 4) rfl rfl rfl (fr_s (j := 5) rfl rfl rfl (fr_s (j := 6) rfl rfl rfl (fr_s (j := 7) rfl rfl rfl (fr_s (j := 8) rfl rfl rfl (fr_s (j := 9) rfl rfl rfl (fr_s (j := 10) rfl rfl rfl (fr_s (j := 11) rfl rfl rfl (fr_s (j := 12) rfl rfl rfl (fr_s (j := 13) rfl rfl rfl (fr_s (j := 14) rfl rfl rfl (fr_s (j := 15) rfl rfl rfl (fr_s (j := 16) rfl rfl rfl (fr_s (j := 17) rfl rfl rfl (fr_s (j := 18) rfl rfl rfl (fr_s (j := 19) rfl rfl rfl (fr_s (j := 20) rfl rfl rfl (fr_s (j := 21) rfl rfl rfl (fr_s (j := 22) rfl rfl rfl (fr_s (j := 23) rfl rfl rfl (fr_n))))))))))))))))))))))))) rfl (by decide) 0 rfl rfl rfl (Nat.le_of_ble_eq_true rfl) dX10_why_12 ?_
    cases hf
    exact r_iret (pc := 15) cx rfl rfl dX10_why_15
  · have hf := ifp h1 hf
    refine r_aload_n (pc := 4) cx dX10_why_4 0 rfl ?_
    obtain ⟨r4, hc5, hf⟩ := bd_of hf
    refine r_Vi (pc := 5) (ws' := [((q 0), ob 9 [.int (M_thrown v), .ref (q 1), .int (M_taped (M_tp v)), .ref (q 2), .ref (q 3), .ref (q 4), .ref (q 5), .ref (q 6), .ref (q 7), .ref (q 8), .ref (q 9), .ref (q 10), .ref (q 11), .ref (q 12), .ref (q 13), .ref (q 14), .int (M_lines (M_rd v)), .int (M_size (M_rd v)), .int (M_at (M_rd v)), .int (M_place (M_rd v)), .int (M_sort (M_rd v)), .int (M_value (M_rd v)), .int (M_fault (M_rd v)), .int (M_faultPlace (M_rd v)), .int (M_lastFault (M_lf v)), .int (M_lastPlace (M_lf v)), .ref (q 15), .ref (q 16), .ref (q 17), .ref (q 18), .int (M_hasImage (M_im v)), .int (M_spanNow (M_rn v)), .ref (q 19), .int (M_placeThen (M_rn v)), .int (M_alonePlace (M_al v)), .int (M_aloneSteps (M_al v)), .int (M_aloneOut (M_al v)), .ref (q 20), .ref (q 21), .ref (q 22), .ref (q 23), .int (M_shotAlarm (M_ex v)), .int (M_drawn (M_ex v))]), ((q 1), aI K 700 (M_tape (M_tp v))), ((q 2), aI K 20 (M_number (M_cd v))), ((q 3), aZ K 5 (M_isTold (M_rd v))), ((q 4), aI K 80 (M_codeSort (M_cd v))), ((q 5), aI K 80 (M_codeA (M_cd v))), ((q 6), aI K 80 (M_codeB (M_cd v))), ((q 7), aI K 80 (M_codeC (M_cd v))), ((q 8), aI K 80 (M_codeName (M_cd v))), ((q 9), aI K 80 (M_codePlace (M_cd v))), ((q 10), aI K 80 (M_codeTo (M_cd v))), ((q 11), aI K 280 (M_labelName (M_cd v))), ((q 12), aI K 280 (M_labelAt (M_cd v))), ((q 13), aI K 64 (M_data (M_cd v))), ((q 14), aZ K 32 (M_hasData (M_rd v))), ((q 15), aI K 314 (M_s (M_rn v))), ((q 16), aI K 314 (M_aside (M_ex v))), ((q 17), aI K 314 (M_further (M_ex v))), ((q 18), aI K 314 (M_image (M_im v))), ((q 19), aI K 3 (M_sizeNow (M_rn v))), ((q 20), aI K 8 (M_aloneRegister (M_al v))), ((q 21), aI K 4 (M_aloneReal (M_al v))), ((q 22), aI K 32 (M_aloneMemory (M_al v))), ((q 23), aI K 999 (M_aloneOutput (M_al v)))]) (nn := 24) cx [] [] (m_M_leaderWhy l D K q v hc5) yv_X10_leaderWhy wd_1592 ⟨rfl, rfl⟩ (by decide) (fr_s (j := 0) rfl rfl rfl (fr_s (j := 1) rfl rfl rfl (fr_s (j := 2) rfl rfl rfl (fr_s (j := 3) rfl rfl rfl (fr_s (j := 4) rfl rfl rfl (fr_s (j := 5) rfl rfl rfl (fr_s (j := 6) rfl rfl rfl (fr_s (j := 7) rfl rfl rfl (fr_s (j := 8) rfl rfl rfl (fr_s (j := 9) rfl rfl rfl (fr_s (j := 10) rfl rfl rfl (fr_s (j := 11) rfl rfl rfl (fr_s (j := 12) rfl rfl rfl (fr_s (j := 13) rfl rfl rfl (fr_s (j := 14) rfl rfl rfl (fr_s (j := 15) rfl rfl rfl (fr_s (j := 16) rfl rfl rfl (fr_s (j := 17) rfl rfl rfl (fr_s (j := 18) rfl rfl rfl (fr_s (j := 19) rfl rfl rfl (fr_s (j := 20) rfl rfl rfl (fr_s (j := 21) rfl rfl rfl (fr_s (j := 22) rfl rfl rfl (fr_s (j := 23) rfl rfl rfl (fr_n))))))))))))))))))))))))) rfl (by decide) 0 rfl rfl rfl (Nat.le_of_ble_eq_true rfl) dX10_why_5 ?_
    refine r_goto (pc := 8) (tgt := 15) cx dX10_why_8 (by decide) ?_
    cases hf
    exact r_iret (pc := 15) cx rfl rfl dX10_why_15
theorem yv_X10_why : YV yX10_why cX10_why 2 (some .int) 1 := ⟨⟨by decide +kernel, by decide +kernel, by decide +kernel⟩, wd_1732, wd_102, wd_1731, wd_77⟩
def f_M_sticks_L2  (k2_62 : (Nat → Int32) → Option (T_M)) : Nat → Int32 → (Nat → Int32) → Option (T_M)
  | 0, _, _ => none
  | n2 + 1, x1, f2 =>
    (if (16 : Int32) ≤ x1 then (k2_62 f2) else (if ix ((4 : Int32) + x1) 314 then (if ix ((54 : Int32) + x1) 314 then (if ix ((70 : Int32) + x1) 314 then (if ix ((54 : Int32) + x1) 314 then (nm (((f2 (((4 : Int32) + x1)).toNatClampNeg) &&& ((f2 (((54 : Int32) + x1)).toNatClampNeg) ^^^ (-1 : Int32))) ||| ((f2 (((70 : Int32) + x1)).toNatClampNeg) &&& (f2 (((54 : Int32) + x1)).toNatClampNeg))) fun (x9 : Int32) => (if ix ((4 : Int32) + x1) 314 then (nm (upd f2 (((4 : Int32) + x1)).toNatClampNeg x9) fun (f11 : Nat → Int32) => (nm (x1 + (1 : Int32)) fun (x12 : Int32) => (f_M_sticks_L2 k2_62 n2 x12 f11))) else none)) else none) else none) else none) else none))
def f_M_sticks (v : T_M) : Option (T_M) :=
  (f_M_sticks_L2 (fun (f3 : (Nat → Int32)) => (some ((M_tp v), (M_rd v), (M_lf v), (M_cd v), (f3, (M_spanNow (M_rn v)), (M_sizeNow (M_rn v)), (M_placeThen (M_rn v))), (M_ex v), (M_im v), (M_al v), (M_thrown v)))) LF (0 : Int32) (M_s (M_rn v)))
abbrev rm_M_sticks : Room := { frames := 0, cells := 0, slots := 0, locals := 0 }
set_option maxRecDepth 100000 in
set_option maxHeartbeats 4000000 in
theorem m_M_sticks (l : Launch) (D : va_G) (K : Nat → ClassId) (q : Nat → Nat) (v : T_M) {o_v : T_M} (hf : f_M_sticks v = some o_v) : MV l yX10_sticks cX10_sticks 2 (none) rm_M_sticks D K [.ref (q 0)] (cl_M K q v) (cl_M K q o_v) := by
  refine MV_of (loc0 := [(0, .ref (q 0))]) (by decide +kernel) rfl (Nat.le_of_ble_eq_true rfl) ?_
  intro p e s m args below meth c A cx
  unfold f_M_sticks at hf
  refine r_ws (ws' := [((q 0), ob 9 [.int (M_thrown v), .ref (q 1), .int (M_taped (M_tp v)), .ref (q 2), .ref (q 3), .ref (q 4), .ref (q 5), .ref (q 6), .ref (q 7), .ref (q 8), .ref (q 9), .ref (q 10), .ref (q 11), .ref (q 12), .ref (q 13), .ref (q 14), .int (M_lines (M_rd v)), .int (M_size (M_rd v)), .int (M_at (M_rd v)), .int (M_place (M_rd v)), .int (M_sort (M_rd v)), .int (M_value (M_rd v)), .int (M_fault (M_rd v)), .int (M_faultPlace (M_rd v)), .int (M_lastFault (M_lf v)), .int (M_lastPlace (M_lf v)), .ref (q 15), .ref (q 16), .ref (q 17), .ref (q 18), .int (M_hasImage (M_im v)), .int (M_spanNow (M_rn v)), .ref (q 19), .int (M_placeThen (M_rn v)), .int (M_alonePlace (M_al v)), .int (M_aloneSteps (M_al v)), .int (M_aloneOut (M_al v)), .ref (q 20), .ref (q 21), .ref (q 22), .ref (q 23), .int (M_shotAlarm (M_ex v)), .int (M_drawn (M_ex v))]), ((q 1), aI K 700 (M_tape (M_tp v))), ((q 2), aI K 20 (M_number (M_cd v))), ((q 3), aZ K 5 (M_isTold (M_rd v))), ((q 4), aI K 80 (M_codeSort (M_cd v))), ((q 5), aI K 80 (M_codeA (M_cd v))), ((q 6), aI K 80 (M_codeB (M_cd v))), ((q 7), aI K 80 (M_codeC (M_cd v))), ((q 8), aI K 80 (M_codeName (M_cd v))), ((q 9), aI K 80 (M_codePlace (M_cd v))), ((q 10), aI K 80 (M_codeTo (M_cd v))), ((q 11), aI K 280 (M_labelName (M_cd v))), ((q 12), aI K 280 (M_labelAt (M_cd v))), ((q 13), aI K 64 (M_data (M_cd v))), ((q 14), aZ K 32 (M_hasData (M_rd v))), ((q 15), aI K 314 (M_s (M_rn v))), ((q 16), aI K 314 (M_aside (M_ex v))), ((q 17), aI K 314 (M_further (M_ex v))), ((q 18), aI K 314 (M_image (M_im v))), ((q 19), aI K 3 (M_sizeNow (M_rn v))), ((q 20), aI K 8 (M_aloneRegister (M_al v))), ((q 21), aI K 4 (M_aloneReal (M_al v))), ((q 22), aI K 32 (M_aloneMemory (M_al v))), ((q 23), aI K 999 (M_aloneOutput (M_al v)))]) rfl ?_
  refine r_iconst (pc := 0) cx dX10_sticks_0 ic_0 ?_
  refine r_istore_n (pc := 1) (loc' := [(1, .int (0 : Int32)), (0, .ref (q 0))]) cx dX10_sticks_1 rfl (by decide) rfl ?_
  have hL2 : ∀ (k2_62 : (Nat → Int32) → Option (T_M)), (∀ (f3 : (Nat → Int32)), k2_62 f3 = some o_v → WW p l e rm_M_sticks s m args below meth c D A 2 0 0 (MQ below (QV D K A (cl_M K q o_v)) args s 0 0 A) ([((q 0), ob 9 [.int (M_thrown v), .ref (q 1), .int (M_taped (M_tp v)), .ref (q 2), .ref (q 3), .ref (q 4), .ref (q 5), .ref (q 6), .ref (q 7), .ref (q 8), .ref (q 9), .ref (q 10), .ref (q 11), .ref (q 12), .ref (q 13), .ref (q 14), .int (M_lines (M_rd v)), .int (M_size (M_rd v)), .int (M_at (M_rd v)), .int (M_place (M_rd v)), .int (M_sort (M_rd v)), .int (M_value (M_rd v)), .int (M_fault (M_rd v)), .int (M_faultPlace (M_rd v)), .int (M_lastFault (M_lf v)), .int (M_lastPlace (M_lf v)), .ref (q 15), .ref (q 16), .ref (q 17), .ref (q 18), .int (M_hasImage (M_im v)), .int (M_spanNow (M_rn v)), .ref (q 19), .int (M_placeThen (M_rn v)), .int (M_alonePlace (M_al v)), .int (M_aloneSteps (M_al v)), .int (M_aloneOut (M_al v)), .ref (q 20), .ref (q 21), .ref (q 22), .ref (q 23), .int (M_shotAlarm (M_ex v)), .int (M_drawn (M_ex v))]), ((q 1), aI K 700 (M_tape (M_tp v))), ((q 2), aI K 20 (M_number (M_cd v))), ((q 3), aZ K 5 (M_isTold (M_rd v))), ((q 4), aI K 80 (M_codeSort (M_cd v))), ((q 5), aI K 80 (M_codeA (M_cd v))), ((q 6), aI K 80 (M_codeB (M_cd v))), ((q 7), aI K 80 (M_codeC (M_cd v))), ((q 8), aI K 80 (M_codeName (M_cd v))), ((q 9), aI K 80 (M_codePlace (M_cd v))), ((q 10), aI K 80 (M_codeTo (M_cd v))), ((q 11), aI K 280 (M_labelName (M_cd v))), ((q 12), aI K 280 (M_labelAt (M_cd v))), ((q 13), aI K 64 (M_data (M_cd v))), ((q 14), aZ K 32 (M_hasData (M_rd v))), ((q 15), aI K 314 f3), ((q 16), aI K 314 (M_aside (M_ex v))), ((q 17), aI K 314 (M_further (M_ex v))), ((q 18), aI K 314 (M_image (M_im v))), ((q 19), aI K 3 (M_sizeNow (M_rn v))), ((q 20), aI K 8 (M_aloneRegister (M_al v))), ((q 21), aI K 4 (M_aloneReal (M_al v))), ((q 22), aI K 32 (M_aloneMemory (M_al v))), ((q 23), aI K 999 (M_aloneOutput (M_al v)))]) ([]) ([]) 62) → ∀ (n2 : Nat) (x1 : Int32) (f2 : (Nat → Int32)), f_M_sticks_L2 k2_62 n2 x1 f2 = some o_v → WW p l e rm_M_sticks s m args below meth c D A 2 0 0 (MQ below (QV D K A (cl_M K q o_v)) args s 0 0 A) ([((q 0), ob 9 [.int (M_thrown v), .ref (q 1), .int (M_taped (M_tp v)), .ref (q 2), .ref (q 3), .ref (q 4), .ref (q 5), .ref (q 6), .ref (q 7), .ref (q 8), .ref (q 9), .ref (q 10), .ref (q 11), .ref (q 12), .ref (q 13), .ref (q 14), .int (M_lines (M_rd v)), .int (M_size (M_rd v)), .int (M_at (M_rd v)), .int (M_place (M_rd v)), .int (M_sort (M_rd v)), .int (M_value (M_rd v)), .int (M_fault (M_rd v)), .int (M_faultPlace (M_rd v)), .int (M_lastFault (M_lf v)), .int (M_lastPlace (M_lf v)), .ref (q 15), .ref (q 16), .ref (q 17), .ref (q 18), .int (M_hasImage (M_im v)), .int (M_spanNow (M_rn v)), .ref (q 19), .int (M_placeThen (M_rn v)), .int (M_alonePlace (M_al v)), .int (M_aloneSteps (M_al v)), .int (M_aloneOut (M_al v)), .ref (q 20), .ref (q 21), .ref (q 22), .ref (q 23), .int (M_shotAlarm (M_ex v)), .int (M_drawn (M_ex v))]), ((q 1), aI K 700 (M_tape (M_tp v))), ((q 2), aI K 20 (M_number (M_cd v))), ((q 3), aZ K 5 (M_isTold (M_rd v))), ((q 4), aI K 80 (M_codeSort (M_cd v))), ((q 5), aI K 80 (M_codeA (M_cd v))), ((q 6), aI K 80 (M_codeB (M_cd v))), ((q 7), aI K 80 (M_codeC (M_cd v))), ((q 8), aI K 80 (M_codeName (M_cd v))), ((q 9), aI K 80 (M_codePlace (M_cd v))), ((q 10), aI K 80 (M_codeTo (M_cd v))), ((q 11), aI K 280 (M_labelName (M_cd v))), ((q 12), aI K 280 (M_labelAt (M_cd v))), ((q 13), aI K 64 (M_data (M_cd v))), ((q 14), aZ K 32 (M_hasData (M_rd v))), ((q 15), aI K 314 f2), ((q 16), aI K 314 (M_aside (M_ex v))), ((q 17), aI K 314 (M_further (M_ex v))), ((q 18), aI K 314 (M_image (M_im v))), ((q 19), aI K 3 (M_sizeNow (M_rn v))), ((q 20), aI K 8 (M_aloneRegister (M_al v))), ((q 21), aI K 4 (M_aloneReal (M_al v))), ((q 22), aI K 32 (M_aloneMemory (M_al v))), ((q 23), aI K 999 (M_aloneOutput (M_al v)))]) ([(0, .ref (q 0)), (1, .int x1)]) ([]) 2 := by
    intro k2_62 hk2_62 n2
    induction n2 with
    | zero => intro x1 f2 hf; exact (nomatch (show (none : Option (T_M)) = some _ from hf))
    | succ n2 ih2 =>
      intro x1 f2 hf
      rw [f_M_sticks_L2] at hf
      refine r_iload_n (pc := 2) cx dX10_sticks_2 1 rfl ?_
      refine r_bipush (pc := 3) cx dX10_sticks_3 bp_16 ?_
      refine r_icmp_ge (pc := 5) (tgt := 62) cx dX10_sticks_5 (by decide) (fun h4 => ?_) (fun h4 => ?_)
      · have hf := ifp h4 hf
        refine r_loc (loc' := []) [] rfl ?_
        exact hk2_62 _ hf
      · have hf := ifn h4 hf
        refine r_aload_n (pc := 8) cx dX10_sticks_8 0 rfl ?_
        refine r_get (pc := 9) cx cf_X10 0 26 rfl (by decide) rfl wd_1342 dX10_sticks_9 ?_
        refine r_iconst (pc := 12) cx dX10_sticks_12 ic_4 ?_
        refine r_iload_n (pc := 13) cx dX10_sticks_13 1 rfl ?_
        refine r_iadd (pc := 14) cx dX10_sticks_14 ?_
        refine r_aload_n (pc := 15) cx dX10_sticks_15 0 rfl ?_
        refine r_get (pc := 16) cx cf_X10 0 26 rfl (by decide) rfl wd_1342 dX10_sticks_16 ?_
        refine r_iconst (pc := 19) cx dX10_sticks_19 ic_4 ?_
        refine r_iload_n (pc := 20) cx dX10_sticks_20 1 rfl ?_
        refine r_iadd (pc := 21) cx dX10_sticks_21 ?_
        obtain ⟨h5, hf⟩ := chk_of hf
        refine r_iald (pc := 22) cx 15 rfl h5 dX10_sticks_22 ?_
        refine r_aload_n (pc := 23) cx dX10_sticks_23 0 rfl ?_
        refine r_get (pc := 24) cx cf_X10 0 26 rfl (by decide) rfl wd_1342 dX10_sticks_24 ?_
        refine r_bipush (pc := 27) cx dX10_sticks_27 bp_54 ?_
        refine r_iload_n (pc := 29) cx dX10_sticks_29 1 rfl ?_
        refine r_iadd (pc := 30) cx dX10_sticks_30 ?_
        obtain ⟨h6, hf⟩ := chk_of hf
        refine r_iald (pc := 31) cx 15 rfl h6 dX10_sticks_31 ?_
        refine r_iconst (pc := 32) cx dX10_sticks_32 ic_m1 ?_
        refine r_ixor (pc := 33) cx dX10_sticks_33 ?_
        refine r_iand (pc := 34) cx dX10_sticks_34 ?_
        refine r_aload_n (pc := 35) cx dX10_sticks_35 0 rfl ?_
        refine r_get (pc := 36) cx cf_X10 0 26 rfl (by decide) rfl wd_1342 dX10_sticks_36 ?_
        refine r_bipush (pc := 39) cx dX10_sticks_39 bp_70 ?_
        refine r_iload_n (pc := 41) cx dX10_sticks_41 1 rfl ?_
        refine r_iadd (pc := 42) cx dX10_sticks_42 ?_
        obtain ⟨h7, hf⟩ := chk_of hf
        refine r_iald (pc := 43) cx 15 rfl h7 dX10_sticks_43 ?_
        refine r_aload_n (pc := 44) cx dX10_sticks_44 0 rfl ?_
        refine r_get (pc := 45) cx cf_X10 0 26 rfl (by decide) rfl wd_1342 dX10_sticks_45 ?_
        refine r_bipush (pc := 48) cx dX10_sticks_48 bp_54 ?_
        refine r_iload_n (pc := 50) cx dX10_sticks_50 1 rfl ?_
        refine r_iadd (pc := 51) cx dX10_sticks_51 ?_
        obtain ⟨h8, hf⟩ := chk_of hf
        refine r_iald (pc := 52) cx 15 rfl h8 dX10_sticks_52 ?_
        refine r_iand (pc := 53) cx dX10_sticks_53 ?_
        refine r_ior (pc := 54) cx dX10_sticks_54 ?_
        obtain ⟨x9, ex9, hf⟩ := nm_of hf
        refine r_nm ex9 ?_
        obtain ⟨h10, hf⟩ := chk_of hf
        obtain ⟨f11, ef11, hf⟩ := nm_of hf
        refine r_iast (pc := 55) (ws' := [((q 0), ob 9 [.int (M_thrown v), .ref (q 1), .int (M_taped (M_tp v)), .ref (q 2), .ref (q 3), .ref (q 4), .ref (q 5), .ref (q 6), .ref (q 7), .ref (q 8), .ref (q 9), .ref (q 10), .ref (q 11), .ref (q 12), .ref (q 13), .ref (q 14), .int (M_lines (M_rd v)), .int (M_size (M_rd v)), .int (M_at (M_rd v)), .int (M_place (M_rd v)), .int (M_sort (M_rd v)), .int (M_value (M_rd v)), .int (M_fault (M_rd v)), .int (M_faultPlace (M_rd v)), .int (M_lastFault (M_lf v)), .int (M_lastPlace (M_lf v)), .ref (q 15), .ref (q 16), .ref (q 17), .ref (q 18), .int (M_hasImage (M_im v)), .int (M_spanNow (M_rn v)), .ref (q 19), .int (M_placeThen (M_rn v)), .int (M_alonePlace (M_al v)), .int (M_aloneSteps (M_al v)), .int (M_aloneOut (M_al v)), .ref (q 20), .ref (q 21), .ref (q 22), .ref (q 23), .int (M_shotAlarm (M_ex v)), .int (M_drawn (M_ex v))]), ((q 1), aI K 700 (M_tape (M_tp v))), ((q 2), aI K 20 (M_number (M_cd v))), ((q 3), aZ K 5 (M_isTold (M_rd v))), ((q 4), aI K 80 (M_codeSort (M_cd v))), ((q 5), aI K 80 (M_codeA (M_cd v))), ((q 6), aI K 80 (M_codeB (M_cd v))), ((q 7), aI K 80 (M_codeC (M_cd v))), ((q 8), aI K 80 (M_codeName (M_cd v))), ((q 9), aI K 80 (M_codePlace (M_cd v))), ((q 10), aI K 80 (M_codeTo (M_cd v))), ((q 11), aI K 280 (M_labelName (M_cd v))), ((q 12), aI K 280 (M_labelAt (M_cd v))), ((q 13), aI K 64 (M_data (M_cd v))), ((q 14), aZ K 32 (M_hasData (M_rd v))), ((q 15), aI K 314 f11), ((q 16), aI K 314 (M_aside (M_ex v))), ((q 17), aI K 314 (M_further (M_ex v))), ((q 18), aI K 314 (M_image (M_im v))), ((q 19), aI K 3 (M_sizeNow (M_rn v))), ((q 20), aI K 8 (M_aloneRegister (M_al v))), ((q 21), aI K 4 (M_aloneReal (M_al v))), ((q 22), aI K 32 (M_aloneMemory (M_al v))), ((q 23), aI K 999 (M_aloneOutput (M_al v)))]) cx 15 rfl h10 dX10_sticks_55 ef11 rfl ?_
        obtain ⟨x12, ex12, hf⟩ := nm_of hf
        refine r_iinc (pc := 56) (loc' := [(1, .int x12), (0, .ref (q 0))]) (v := x12) cx dX10_sticks_56 1 rfl ((congrArg (fun z => x1 + z) ic_1).trans ex12.symm) (by decide) rfl ?_
        refine r_goto (pc := 59) (tgt := 2) cx dX10_sticks_59 (by decide) ?_
        refine r_loc (loc' := [(0, .ref (q 0)), (1, .int x12)]) [1, 0] rfl ?_
        exact ih2 _ _ hf
  refine r_loc (loc' := [(0, .ref (q 0)), (1, .int (0 : Int32))]) [1, 0] rfl ?_
  refine hL2 _ (fun f3 hf => ?_) _ _ _ hf
  cases hf
  exact r_vret (pc := 62) cx rfl dX10_sticks_62
theorem yv_X10_sticks : YV yX10_sticks cX10_sticks 2 (none) 0 := ⟨⟨by decide +kernel, by decide +kernel, by decide +kernel⟩, wd_1670, wd_102, wd_1669, wd_67⟩
def f_M_addressOf (v : T_M) (a1 : Int32) (a2 : Int32) : Option (Int32) :=
  (if ix a2 80 then (nm (((4 : Int32) + ((8 : Int32) * a1)) + ((M_codeB (M_cd v)) a2.toNatClampNeg)) fun (x2 : Int32) => (if ix x2 314 then (if ix a2 80 then (some ((((M_s (M_rn v)) x2.toNatClampNeg) + ((M_codeC (M_cd v)) a2.toNatClampNeg)) &&& (31 : Int32))) else none) else none)) else none)
abbrev rm_M_addressOf : Room := { frames := 0, cells := 0, slots := 0, locals := 0 }
set_option maxRecDepth 100000 in
set_option maxHeartbeats 4000000 in
theorem m_M_addressOf (l : Launch) (D : va_G) (K : Nat → ClassId) (q : Nat → Nat) (v : T_M) (a1 : Int32) (a2 : Int32) {r_ : Int32} (hf : f_M_addressOf v a1 a2 = some r_) : MI l yX10_addressOf cX10_addressOf 3 (some .int) rm_M_addressOf D K [.ref (q 0), .int a1, .int a2] (cl_M K q v) r_ (cl_M K q v) := by
  refine MI_of (loc0 := [(0, .ref (q 0)), (1, .int a1), (2, .int a2)]) (by decide +kernel) rfl (Nat.le_of_ble_eq_true rfl) ?_
  intro p e s m args below meth c A cx
  unfold f_M_addressOf at hf
  refine r_ws (ws' := [((q 0), ob 9 [.int (M_thrown v), .ref (q 1), .int (M_taped (M_tp v)), .ref (q 2), .ref (q 3), .ref (q 4), .ref (q 5), .ref (q 6), .ref (q 7), .ref (q 8), .ref (q 9), .ref (q 10), .ref (q 11), .ref (q 12), .ref (q 13), .ref (q 14), .int (M_lines (M_rd v)), .int (M_size (M_rd v)), .int (M_at (M_rd v)), .int (M_place (M_rd v)), .int (M_sort (M_rd v)), .int (M_value (M_rd v)), .int (M_fault (M_rd v)), .int (M_faultPlace (M_rd v)), .int (M_lastFault (M_lf v)), .int (M_lastPlace (M_lf v)), .ref (q 15), .ref (q 16), .ref (q 17), .ref (q 18), .int (M_hasImage (M_im v)), .int (M_spanNow (M_rn v)), .ref (q 19), .int (M_placeThen (M_rn v)), .int (M_alonePlace (M_al v)), .int (M_aloneSteps (M_al v)), .int (M_aloneOut (M_al v)), .ref (q 20), .ref (q 21), .ref (q 22), .ref (q 23), .int (M_shotAlarm (M_ex v)), .int (M_drawn (M_ex v))]), ((q 1), aI K 700 (M_tape (M_tp v))), ((q 2), aI K 20 (M_number (M_cd v))), ((q 3), aZ K 5 (M_isTold (M_rd v))), ((q 4), aI K 80 (M_codeSort (M_cd v))), ((q 5), aI K 80 (M_codeA (M_cd v))), ((q 6), aI K 80 (M_codeB (M_cd v))), ((q 7), aI K 80 (M_codeC (M_cd v))), ((q 8), aI K 80 (M_codeName (M_cd v))), ((q 9), aI K 80 (M_codePlace (M_cd v))), ((q 10), aI K 80 (M_codeTo (M_cd v))), ((q 11), aI K 280 (M_labelName (M_cd v))), ((q 12), aI K 280 (M_labelAt (M_cd v))), ((q 13), aI K 64 (M_data (M_cd v))), ((q 14), aZ K 32 (M_hasData (M_rd v))), ((q 15), aI K 314 (M_s (M_rn v))), ((q 16), aI K 314 (M_aside (M_ex v))), ((q 17), aI K 314 (M_further (M_ex v))), ((q 18), aI K 314 (M_image (M_im v))), ((q 19), aI K 3 (M_sizeNow (M_rn v))), ((q 20), aI K 8 (M_aloneRegister (M_al v))), ((q 21), aI K 4 (M_aloneReal (M_al v))), ((q 22), aI K 32 (M_aloneMemory (M_al v))), ((q 23), aI K 999 (M_aloneOutput (M_al v)))]) rfl ?_
  refine r_aload_n (pc := 0) cx dX10_addressOf_0 0 rfl ?_
  refine r_get (pc := 1) cx cf_X10 0 26 rfl (by decide) rfl wd_1342 dX10_addressOf_1 ?_
  refine r_iconst (pc := 4) cx dX10_addressOf_4 ic_4 ?_
  refine r_bipush (pc := 5) cx dX10_addressOf_5 bp_8 ?_
  refine r_iload_n (pc := 7) cx dX10_addressOf_7 1 rfl ?_
  refine r_imul (pc := 8) cx dX10_addressOf_8 ?_
  refine r_iadd (pc := 9) cx dX10_addressOf_9 ?_
  refine r_aload_n (pc := 10) cx dX10_addressOf_10 0 rfl ?_
  refine r_get (pc := 11) cx cf_X10 0 7 rfl (by decide) rfl wd_1323 dX10_addressOf_11 ?_
  refine r_iload_n (pc := 14) cx dX10_addressOf_14 2 rfl ?_
  obtain ⟨h1, hf⟩ := chk_of hf
  refine r_iald (pc := 15) cx 6 rfl h1 dX10_addressOf_15 ?_
  refine r_iadd (pc := 16) cx dX10_addressOf_16 ?_
  obtain ⟨x2, ex2, hf⟩ := nm_of hf
  refine r_nm ex2 ?_
  obtain ⟨h3, hf⟩ := chk_of hf
  refine r_iald (pc := 17) cx 15 rfl h3 dX10_addressOf_17 ?_
  refine r_aload_n (pc := 18) cx dX10_addressOf_18 0 rfl ?_
  refine r_get (pc := 19) cx cf_X10 0 8 rfl (by decide) rfl wd_1324 dX10_addressOf_19 ?_
  refine r_iload_n (pc := 22) cx dX10_addressOf_22 2 rfl ?_
  obtain ⟨h4, hf⟩ := chk_of hf
  refine r_iald (pc := 23) cx 7 rfl h4 dX10_addressOf_23 ?_
  refine r_iadd (pc := 24) cx dX10_addressOf_24 ?_
  refine r_bipush (pc := 25) cx dX10_addressOf_25 bp_31 ?_
  refine r_iand (pc := 27) cx dX10_addressOf_27 ?_
  cases hf
  exact r_iret (pc := 28) cx rfl rfl dX10_addressOf_28
theorem yv_X10_addressOf : YV yX10_addressOf cX10_addressOf 3 (some .int) 2 := ⟨⟨by decide +kernel, by decide +kernel, by decide +kernel⟩, wd_1614, wd_102, wd_1613, wd_62⟩
def f_M_goesBy (a0 : Int32) (a1 : Int32) (a2 : Int32) (a3 : Int32) (a4 : Int32) : Option (Int32) :=
  (if a0 = (21 : Int32) then (if a1 = (0 : Int32) then (some (1 : Int32)) else (some (0 : Int32))) else (if a0 = (22 : Int32) then (if a2 ≤ a1 then (some (0 : Int32)) else (some (1 : Int32))) else (bd (f_M_isLost a3) fun (r3 : Int32) => (if r3 = (0 : Int32) then (bd (f_M_isLost a4) fun (r6 : Int32) => (if r6 = (0 : Int32) then (bd (f_M_worth a3) fun (r9 : UInt64) => (bd (f_M_worth a4) fun (r11 : UInt64) => (if (0 : Int32) ≤ (Op.cmpValue (FP.dcmp r9 r11) .g) then (some (0 : Int32)) else (some (1 : Int32))))) else (some (0 : Int32)))) else (some (0 : Int32))))))
abbrev rm_M_goesBy : Room := { frames := 2, cells := 0, slots := 0, locals := 54 }
set_option maxRecDepth 100000 in
set_option maxHeartbeats 4000000 in
theorem m_M_goesBy (l : Launch) (D : va_G) (K : Nat → ClassId) (a0 : Int32) (a1 : Int32) (a2 : Int32) (a3 : Int32) (a4 : Int32) {r_ : Int32} (hf : f_M_goesBy a0 a1 a2 a3 a4 = some r_) : MI l yX10_goesBy cX10_goesBy 5 (some .boolean) rm_M_goesBy D K [.int a0, .int a1, .int a2, .int a3, .int a4] ([]) r_ ([]) := by
  refine MI_of (loc0 := [(0, .int a0), (1, .int a1), (2, .int a2), (3, .int a3), (4, .int a4)]) (by decide +kernel) rfl (Nat.le_of_ble_eq_true rfl) ?_
  intro p e s m args below meth c A cx
  unfold f_M_goesBy at hf
  refine r_ws (ws' := []) rfl ?_
  refine r_iload_n (pc := 0) cx dX10_goesBy_0 0 rfl ?_
  refine r_bipush (pc := 1) cx dX10_goesBy_1 bp_21 ?_
  refine r_icmp_ne (pc := 3) (tgt := 16) cx dX10_goesBy_3 (by decide) (fun h1 => ?_) (fun h1 => ?_)
  · have hf := ifn h1 hf
    refine r_iload_n (pc := 16) cx dX10_goesBy_16 0 rfl ?_
    refine r_bipush (pc := 17) cx dX10_goesBy_17 bp_22 ?_
    refine r_icmp_ne (pc := 19) (tgt := 33) cx dX10_goesBy_19 (by decide) (fun h2 => ?_) (fun h2 => ?_)
    · have hf := ifn h2 hf
      refine r_iload_n (pc := 33) cx dX10_goesBy_33 3 rfl ?_
      obtain ⟨r3, hc4, hf⟩ := bd_of hf
      refine r_Si (pc := 34) (ws' := []) (nn := 0) cx [.int a3] [] (m_M_isLost l D K a3 hc4) ys_X10_isLost wd_1643 ⟨rfl, rfl⟩ (by decide) (fr_n) rfl (by decide) rfl (Nat.le_of_ble_eq_true rfl) dX10_goesBy_34 ?_
      refine r_if_ne (pc := 37) (tgt := 65) cx dX10_goesBy_37 (by decide) (fun h5 => ?_) (fun h5 => ?_)
      · have hf := ifn h5 hf
        refine r_iconst (pc := 65) cx dX10_goesBy_65 ic_0 ?_
        cases hf
        exact r_zret (pc := 66) cx (Or.inl rfl) rfl rfl dX10_goesBy_66
      · have hf := ifp h5 hf
        refine r_iload (pc := 40) cx dX10_goesBy_40 4 rfl ?_
        obtain ⟨r6, hc7, hf⟩ := bd_of hf
        refine r_Si (pc := 42) (ws' := []) (nn := 0) cx [.int a4] [] (m_M_isLost l D K a4 hc7) ys_X10_isLost wd_1643 ⟨rfl, rfl⟩ (by decide) (fr_n) rfl (by decide) rfl (Nat.le_of_ble_eq_true rfl) dX10_goesBy_42 ?_
        refine r_if_ne (pc := 45) (tgt := 65) cx dX10_goesBy_45 (by decide) (fun h8 => ?_) (fun h8 => ?_)
        · have hf := ifn h8 hf
          refine r_iconst (pc := 65) cx dX10_goesBy_65 ic_0 ?_
          cases hf
          exact r_zret (pc := 66) cx (Or.inl rfl) rfl rfl dX10_goesBy_66
        · have hf := ifp h8 hf
          refine r_iload_n (pc := 48) cx dX10_goesBy_48 3 rfl ?_
          obtain ⟨r9, hc10, hf⟩ := bd_of hf
          refine r_Sd (pc := 49) (ws' := []) (nn := 0) cx [.int a3] [] (m_M_worth l D K a3 hc10) ys_X10_worth wd_1647 ⟨rfl, rfl⟩ (by decide) (fr_n) rfl (by decide) rfl (Nat.le_of_ble_eq_true rfl) dX10_goesBy_49 ?_
          refine r_iload (pc := 52) cx dX10_goesBy_52 4 rfl ?_
          obtain ⟨r11, hc12, hf⟩ := bd_of hf
          refine r_Sd (pc := 54) (ws' := []) (nn := 0) cx [.int a4] [.double r9] (m_M_worth l D K a4 hc12) ys_X10_worth wd_1647 ⟨rfl, rfl⟩ (by decide) (fr_n) rfl (by decide) rfl (Nat.le_of_ble_eq_true rfl) dX10_goesBy_54 ?_
          refine r_dcmpg (pc := 57) cx dX10_goesBy_57 ?_
          refine r_if_ge (pc := 58) (tgt := 65) cx dX10_goesBy_58 (by decide) (fun h13 => ?_) (fun h13 => ?_)
          · have hf := ifp h13 hf
            refine r_iconst (pc := 65) cx dX10_goesBy_65 ic_0 ?_
            cases hf
            exact r_zret (pc := 66) cx (Or.inl rfl) rfl rfl dX10_goesBy_66
          · have hf := ifn h13 hf
            refine r_iconst (pc := 61) cx dX10_goesBy_61 ic_1 ?_
            refine r_goto (pc := 62) (tgt := 66) cx dX10_goesBy_62 (by decide) ?_
            cases hf
            exact r_zret (pc := 66) cx (Or.inr rfl) rfl rfl dX10_goesBy_66
    · have hf := ifp h2 hf
      refine r_iload_n (pc := 22) cx dX10_goesBy_22 1 rfl ?_
      refine r_iload_n (pc := 23) cx dX10_goesBy_23 2 rfl ?_
      refine r_icmp_ge (pc := 24) (tgt := 31) cx dX10_goesBy_24 (by decide) (fun h14 => ?_) (fun h14 => ?_)
      · have hf := ifp h14 hf
        refine r_iconst (pc := 31) cx dX10_goesBy_31 ic_0 ?_
        cases hf
        exact r_zret (pc := 32) cx (Or.inl rfl) rfl rfl dX10_goesBy_32
      · have hf := ifn h14 hf
        refine r_iconst (pc := 27) cx dX10_goesBy_27 ic_1 ?_
        refine r_goto (pc := 28) (tgt := 32) cx dX10_goesBy_28 (by decide) ?_
        cases hf
        exact r_zret (pc := 32) cx (Or.inr rfl) rfl rfl dX10_goesBy_32
  · have hf := ifp h1 hf
    refine r_iload_n (pc := 6) cx dX10_goesBy_6 1 rfl ?_
    refine r_if_ne (pc := 7) (tgt := 14) cx dX10_goesBy_7 (by decide) (fun h15 => ?_) (fun h15 => ?_)
    · have hf := ifn h15 hf
      refine r_iconst (pc := 14) cx dX10_goesBy_14 ic_0 ?_
      cases hf
      exact r_zret (pc := 15) cx (Or.inl rfl) rfl rfl dX10_goesBy_15
    · have hf := ifp h15 hf
      refine r_iconst (pc := 10) cx dX10_goesBy_10 ic_1 ?_
      refine r_goto (pc := 11) (tgt := 15) cx dX10_goesBy_11 (by decide) ?_
      cases hf
      exact r_zret (pc := 15) cx (Or.inr rfl) rfl rfl dX10_goesBy_15
theorem ys_X10_goesBy : YS yX10_goesBy cX10_goesBy 5 (some .boolean) 5 := ⟨⟨by decide +kernel, by decide +kernel, by decide +kernel⟩, wd_1662, wd_102, wd_1661⟩
def f_M_branches_L67  (k67_102 : (Nat → Int32) → Option (Int32 × T_M)) : Nat → Int32 → (Nat → Int32) → Option (Int32 × T_M)
  | 0, _, _ => none
  | n67 + 1, x5, f6 =>
    (if (8 : Int32) ≤ x5 then (k67_102 f6) else (if ix ((104 : Int32) + x5) 314 then (nm (f6 (((104 : Int32) + x5)).toNatClampNeg) fun (x10 : Int32) => (if ix (((104 : Int32) + x5) - (1 : Int32)) 314 then (nm (upd f6 ((((104 : Int32) + x5) - (1 : Int32))).toNatClampNeg x10) fun (f12 : Nat → Int32) => (nm (x5 + (1 : Int32)) fun (x13 : Int32) => (f_M_branches_L67 k67_102 n67 x13 f12))) else none)) else none))
def f_M_branches (v : T_M) (a1 : Int32) (a2 : Int32) (a3 : Int32) : Option (Int32 × T_M) :=
  (nm (fun (x1 : Int32) => ((if a1 = (0 : Int32) then (nm (fun (y19 : Int32) => ((if ix ((104 : Int32) + ((M_s (M_rn v)) (103 : Int32).toNatClampNeg)) 314 then (nm (upd (M_s (M_rn v)) (((104 : Int32) + ((M_s (M_rn v)) (103 : Int32).toNatClampNeg))).toNatClampNeg y19) fun (f22 : Nat → Int32) => (nm ((f22 (103 : Int32).toNatClampNeg) + (1 : Int32)) fun (x23 : Int32) => (nm (upd f22 (103 : Int32).toNatClampNeg x23) fun (f24 : Nat → Int32) => (some ((0 : Int32), ((M_tp v), (M_rd v), (M_lf v), (M_cd v), (f24, (M_spanNow (M_rn v)), (M_sizeNow (M_rn v)), x1), (M_ex v), (M_im v), (M_al v), (M_thrown v))))))) else none) : Option (Int32 × T_M))) fun J20 => (if a3 = (0 : Int32) then (J20 (0 : Int32)) else (J20 (1 : Int32)))) else (nm ((M_s (M_rn v)) (104 : Int32).toNatClampNeg) fun (x4 : Int32) => (f_M_branches_L67 (fun (f7 : (Nat → Int32)) => (nm ((f7 (103 : Int32).toNatClampNeg) - (1 : Int32)) fun (x14 : Int32) => (nm (upd f7 (103 : Int32).toNatClampNeg x14) fun (f15 : Nat → Int32) => (if a3 = (0 : Int32) then (if x4 = (0 : Int32) then (some ((0 : Int32), ((M_tp v), (M_rd v), (M_lf v), (M_cd v), (f15, (M_spanNow (M_rn v)), (M_sizeNow (M_rn v)), x1), (M_ex v), (M_im v), (M_al v), (M_thrown v)))) else (some ((2 : Int32), ((M_tp v), (M_rd v), (M_lf v), (M_cd v), (f15, (M_spanNow (M_rn v)), (M_sizeNow (M_rn v)), x1), (M_ex v), (M_im v), (M_al v), (M_thrown v))))) else (if x4 = (1 : Int32) then (some ((0 : Int32), ((M_tp v), (M_rd v), (M_lf v), (M_cd v), (f15, (M_spanNow (M_rn v)), (M_sizeNow (M_rn v)), x1), (M_ex v), (M_im v), (M_al v), (M_thrown v)))) else (some ((2 : Int32), ((M_tp v), (M_rd v), (M_lf v), (M_cd v), (f15, (M_spanNow (M_rn v)), (M_sizeNow (M_rn v)), x1), (M_ex v), (M_im v), (M_al v), (M_thrown v))))))))) LF (1 : Int32) (M_s (M_rn v))))) : Option (Int32 × T_M))) fun J2 => (if a3 = (0 : Int32) then (J2 (M_placeThen (M_rn v))) else (if ix a2 80 then (nm ((M_codeTo (M_cd v)) a2.toNatClampNeg) fun (x28 : Int32) => (J2 x28)) else none)))
abbrev rm_M_branches : Room := { frames := 0, cells := 0, slots := 0, locals := 0 }
set_option maxRecDepth 100000 in
set_option maxHeartbeats 4000000 in
theorem m_M_branches (l : Launch) (D : va_G) (K : Nat → ClassId) (q : Nat → Nat) (v : T_M) (a1 : Int32) (a2 : Int32) (a3 : Int32) {r_ : Int32} {o_v : T_M} (hf : f_M_branches v a1 a2 a3 = some (r_, o_v)) : MI l yX10_branches cX10_branches 6 (some .int) rm_M_branches D K [.ref (q 0), .int a1, .int a2, .int a3] (cl_M K q v) r_ (cl_M K q o_v) := by
  refine MI_of (loc0 := [(0, .ref (q 0)), (1, .int a1), (2, .int a2), (3, .int a3)]) (by decide +kernel) rfl (Nat.le_of_ble_eq_true rfl) ?_
  intro p e s m args below meth c A cx
  unfold f_M_branches at hf
  refine r_ws (ws' := [((q 0), ob 9 [.int (M_thrown v), .ref (q 1), .int (M_taped (M_tp v)), .ref (q 2), .ref (q 3), .ref (q 4), .ref (q 5), .ref (q 6), .ref (q 7), .ref (q 8), .ref (q 9), .ref (q 10), .ref (q 11), .ref (q 12), .ref (q 13), .ref (q 14), .int (M_lines (M_rd v)), .int (M_size (M_rd v)), .int (M_at (M_rd v)), .int (M_place (M_rd v)), .int (M_sort (M_rd v)), .int (M_value (M_rd v)), .int (M_fault (M_rd v)), .int (M_faultPlace (M_rd v)), .int (M_lastFault (M_lf v)), .int (M_lastPlace (M_lf v)), .ref (q 15), .ref (q 16), .ref (q 17), .ref (q 18), .int (M_hasImage (M_im v)), .int (M_spanNow (M_rn v)), .ref (q 19), .int (M_placeThen (M_rn v)), .int (M_alonePlace (M_al v)), .int (M_aloneSteps (M_al v)), .int (M_aloneOut (M_al v)), .ref (q 20), .ref (q 21), .ref (q 22), .ref (q 23), .int (M_shotAlarm (M_ex v)), .int (M_drawn (M_ex v))]), ((q 1), aI K 700 (M_tape (M_tp v))), ((q 2), aI K 20 (M_number (M_cd v))), ((q 3), aZ K 5 (M_isTold (M_rd v))), ((q 4), aI K 80 (M_codeSort (M_cd v))), ((q 5), aI K 80 (M_codeA (M_cd v))), ((q 6), aI K 80 (M_codeB (M_cd v))), ((q 7), aI K 80 (M_codeC (M_cd v))), ((q 8), aI K 80 (M_codeName (M_cd v))), ((q 9), aI K 80 (M_codePlace (M_cd v))), ((q 10), aI K 80 (M_codeTo (M_cd v))), ((q 11), aI K 280 (M_labelName (M_cd v))), ((q 12), aI K 280 (M_labelAt (M_cd v))), ((q 13), aI K 64 (M_data (M_cd v))), ((q 14), aZ K 32 (M_hasData (M_rd v))), ((q 15), aI K 314 (M_s (M_rn v))), ((q 16), aI K 314 (M_aside (M_ex v))), ((q 17), aI K 314 (M_further (M_ex v))), ((q 18), aI K 314 (M_image (M_im v))), ((q 19), aI K 3 (M_sizeNow (M_rn v))), ((q 20), aI K 8 (M_aloneRegister (M_al v))), ((q 21), aI K 4 (M_aloneReal (M_al v))), ((q 22), aI K 32 (M_aloneMemory (M_al v))), ((q 23), aI K 999 (M_aloneOutput (M_al v)))]) rfl ?_
  refine r_iload_n (pc := 0) cx dX10_branches_0 3 rfl ?_
  obtain ⟨J2, eJ2, hf⟩ := nm_of hf
  have hJ2 : ∀ (x1 : Int32), J2 x1 = some (r_, o_v) → WW p l e rm_M_branches s m args below meth c D A 6 0 0 (MQ below (QI D K A r_ (cl_M K q o_v)) args s 0 0 A) ([((q 0), ob 9 [.int (M_thrown v), .ref (q 1), .int (M_taped (M_tp v)), .ref (q 2), .ref (q 3), .ref (q 4), .ref (q 5), .ref (q 6), .ref (q 7), .ref (q 8), .ref (q 9), .ref (q 10), .ref (q 11), .ref (q 12), .ref (q 13), .ref (q 14), .int (M_lines (M_rd v)), .int (M_size (M_rd v)), .int (M_at (M_rd v)), .int (M_place (M_rd v)), .int (M_sort (M_rd v)), .int (M_value (M_rd v)), .int (M_fault (M_rd v)), .int (M_faultPlace (M_rd v)), .int (M_lastFault (M_lf v)), .int (M_lastPlace (M_lf v)), .ref (q 15), .ref (q 16), .ref (q 17), .ref (q 18), .int (M_hasImage (M_im v)), .int (M_spanNow (M_rn v)), .ref (q 19), .int x1, .int (M_alonePlace (M_al v)), .int (M_aloneSteps (M_al v)), .int (M_aloneOut (M_al v)), .ref (q 20), .ref (q 21), .ref (q 22), .ref (q 23), .int (M_shotAlarm (M_ex v)), .int (M_drawn (M_ex v))]), ((q 1), aI K 700 (M_tape (M_tp v))), ((q 2), aI K 20 (M_number (M_cd v))), ((q 3), aZ K 5 (M_isTold (M_rd v))), ((q 4), aI K 80 (M_codeSort (M_cd v))), ((q 5), aI K 80 (M_codeA (M_cd v))), ((q 6), aI K 80 (M_codeB (M_cd v))), ((q 7), aI K 80 (M_codeC (M_cd v))), ((q 8), aI K 80 (M_codeName (M_cd v))), ((q 9), aI K 80 (M_codePlace (M_cd v))), ((q 10), aI K 80 (M_codeTo (M_cd v))), ((q 11), aI K 280 (M_labelName (M_cd v))), ((q 12), aI K 280 (M_labelAt (M_cd v))), ((q 13), aI K 64 (M_data (M_cd v))), ((q 14), aZ K 32 (M_hasData (M_rd v))), ((q 15), aI K 314 (M_s (M_rn v))), ((q 16), aI K 314 (M_aside (M_ex v))), ((q 17), aI K 314 (M_further (M_ex v))), ((q 18), aI K 314 (M_image (M_im v))), ((q 19), aI K 3 (M_sizeNow (M_rn v))), ((q 20), aI K 8 (M_aloneRegister (M_al v))), ((q 21), aI K 4 (M_aloneReal (M_al v))), ((q 22), aI K 32 (M_aloneMemory (M_al v))), ((q 23), aI K 999 (M_aloneOutput (M_al v)))]) ([(0, .ref (q 0)), (1, .int a1), (3, .int a3)]) ([]) 14 := by
    intro x1 hf
    rw [eJ2] at hf
    refine r_iload_n (pc := 14) cx dX10_branches_14 1 rfl ?_
    refine r_if_ne (pc := 15) (tgt := 55) cx dX10_branches_15 (by decide) (fun h3 => ?_) (fun h3 => ?_)
    · have hf := ifn h3 hf
      refine r_aload_n (pc := 55) cx dX10_branches_55 0 rfl ?_
      refine r_get (pc := 56) cx cf_X10 0 26 rfl (by decide) rfl wd_1342 dX10_branches_56 ?_
      refine r_bipush (pc := 59) cx dX10_branches_59 bp_104 ?_
      refine r_iald (pc := 61) cx 15 rfl (by decide) dX10_branches_61 ?_
      obtain ⟨x4, ex4, hf⟩ := nm_of hf
      refine r_nm ex4 ?_
      refine r_istore (pc := 62) (loc' := [(4, .int x4), (0, .ref (q 0)), (1, .int a1), (3, .int a3)]) cx dX10_branches_62 (by decide) rfl ?_
      refine r_iconst (pc := 64) cx dX10_branches_64 ic_1 ?_
      refine r_istore (pc := 65) (loc' := [(5, .int (1 : Int32)), (4, .int x4), (0, .ref (q 0)), (1, .int a1), (3, .int a3)]) cx dX10_branches_65 (by decide) rfl ?_
      have hL67 : ∀ (k67_102 : (Nat → Int32) → Option (Int32 × T_M)), (∀ (f7 : (Nat → Int32)), k67_102 f7 = some (r_, o_v) → WW p l e rm_M_branches s m args below meth c D A 6 0 0 (MQ below (QI D K A r_ (cl_M K q o_v)) args s 0 0 A) ([((q 0), ob 9 [.int (M_thrown v), .ref (q 1), .int (M_taped (M_tp v)), .ref (q 2), .ref (q 3), .ref (q 4), .ref (q 5), .ref (q 6), .ref (q 7), .ref (q 8), .ref (q 9), .ref (q 10), .ref (q 11), .ref (q 12), .ref (q 13), .ref (q 14), .int (M_lines (M_rd v)), .int (M_size (M_rd v)), .int (M_at (M_rd v)), .int (M_place (M_rd v)), .int (M_sort (M_rd v)), .int (M_value (M_rd v)), .int (M_fault (M_rd v)), .int (M_faultPlace (M_rd v)), .int (M_lastFault (M_lf v)), .int (M_lastPlace (M_lf v)), .ref (q 15), .ref (q 16), .ref (q 17), .ref (q 18), .int (M_hasImage (M_im v)), .int (M_spanNow (M_rn v)), .ref (q 19), .int x1, .int (M_alonePlace (M_al v)), .int (M_aloneSteps (M_al v)), .int (M_aloneOut (M_al v)), .ref (q 20), .ref (q 21), .ref (q 22), .ref (q 23), .int (M_shotAlarm (M_ex v)), .int (M_drawn (M_ex v))]), ((q 1), aI K 700 (M_tape (M_tp v))), ((q 2), aI K 20 (M_number (M_cd v))), ((q 3), aZ K 5 (M_isTold (M_rd v))), ((q 4), aI K 80 (M_codeSort (M_cd v))), ((q 5), aI K 80 (M_codeA (M_cd v))), ((q 6), aI K 80 (M_codeB (M_cd v))), ((q 7), aI K 80 (M_codeC (M_cd v))), ((q 8), aI K 80 (M_codeName (M_cd v))), ((q 9), aI K 80 (M_codePlace (M_cd v))), ((q 10), aI K 80 (M_codeTo (M_cd v))), ((q 11), aI K 280 (M_labelName (M_cd v))), ((q 12), aI K 280 (M_labelAt (M_cd v))), ((q 13), aI K 64 (M_data (M_cd v))), ((q 14), aZ K 32 (M_hasData (M_rd v))), ((q 15), aI K 314 f7), ((q 16), aI K 314 (M_aside (M_ex v))), ((q 17), aI K 314 (M_further (M_ex v))), ((q 18), aI K 314 (M_image (M_im v))), ((q 19), aI K 3 (M_sizeNow (M_rn v))), ((q 20), aI K 8 (M_aloneRegister (M_al v))), ((q 21), aI K 4 (M_aloneReal (M_al v))), ((q 22), aI K 32 (M_aloneMemory (M_al v))), ((q 23), aI K 999 (M_aloneOutput (M_al v)))]) ([(0, .ref (q 0)), (3, .int a3), (4, .int x4)]) ([]) 102) → ∀ (n67 : Nat) (x5 : Int32) (f6 : (Nat → Int32)), f_M_branches_L67 k67_102 n67 x5 f6 = some (r_, o_v) → WW p l e rm_M_branches s m args below meth c D A 6 0 0 (MQ below (QI D K A r_ (cl_M K q o_v)) args s 0 0 A) ([((q 0), ob 9 [.int (M_thrown v), .ref (q 1), .int (M_taped (M_tp v)), .ref (q 2), .ref (q 3), .ref (q 4), .ref (q 5), .ref (q 6), .ref (q 7), .ref (q 8), .ref (q 9), .ref (q 10), .ref (q 11), .ref (q 12), .ref (q 13), .ref (q 14), .int (M_lines (M_rd v)), .int (M_size (M_rd v)), .int (M_at (M_rd v)), .int (M_place (M_rd v)), .int (M_sort (M_rd v)), .int (M_value (M_rd v)), .int (M_fault (M_rd v)), .int (M_faultPlace (M_rd v)), .int (M_lastFault (M_lf v)), .int (M_lastPlace (M_lf v)), .ref (q 15), .ref (q 16), .ref (q 17), .ref (q 18), .int (M_hasImage (M_im v)), .int (M_spanNow (M_rn v)), .ref (q 19), .int x1, .int (M_alonePlace (M_al v)), .int (M_aloneSteps (M_al v)), .int (M_aloneOut (M_al v)), .ref (q 20), .ref (q 21), .ref (q 22), .ref (q 23), .int (M_shotAlarm (M_ex v)), .int (M_drawn (M_ex v))]), ((q 1), aI K 700 (M_tape (M_tp v))), ((q 2), aI K 20 (M_number (M_cd v))), ((q 3), aZ K 5 (M_isTold (M_rd v))), ((q 4), aI K 80 (M_codeSort (M_cd v))), ((q 5), aI K 80 (M_codeA (M_cd v))), ((q 6), aI K 80 (M_codeB (M_cd v))), ((q 7), aI K 80 (M_codeC (M_cd v))), ((q 8), aI K 80 (M_codeName (M_cd v))), ((q 9), aI K 80 (M_codePlace (M_cd v))), ((q 10), aI K 80 (M_codeTo (M_cd v))), ((q 11), aI K 280 (M_labelName (M_cd v))), ((q 12), aI K 280 (M_labelAt (M_cd v))), ((q 13), aI K 64 (M_data (M_cd v))), ((q 14), aZ K 32 (M_hasData (M_rd v))), ((q 15), aI K 314 f6), ((q 16), aI K 314 (M_aside (M_ex v))), ((q 17), aI K 314 (M_further (M_ex v))), ((q 18), aI K 314 (M_image (M_im v))), ((q 19), aI K 3 (M_sizeNow (M_rn v))), ((q 20), aI K 8 (M_aloneRegister (M_al v))), ((q 21), aI K 4 (M_aloneReal (M_al v))), ((q 22), aI K 32 (M_aloneMemory (M_al v))), ((q 23), aI K 999 (M_aloneOutput (M_al v)))]) ([(0, .ref (q 0)), (3, .int a3), (4, .int x4), (5, .int x5)]) ([]) 67 := by
        intro k67_102 hk67_102 n67
        induction n67 with
        | zero => intro x5 f6 hf; exact (nomatch (show (none : Option (Int32 × T_M)) = some _ from hf))
        | succ n67 ih67 =>
          intro x5 f6 hf
          rw [f_M_branches_L67] at hf
          refine r_iload (pc := 67) cx dX10_branches_67 3 rfl ?_
          refine r_bipush (pc := 69) cx dX10_branches_69 bp_8 ?_
          refine r_icmp_ge (pc := 71) (tgt := 102) cx dX10_branches_71 (by decide) (fun h8 => ?_) (fun h8 => ?_)
          · have hf := ifp h8 hf
            refine r_loc (loc' := [(0, .ref (q 0)), (3, .int a3), (4, .int x4)]) [0, 1, 2] rfl ?_
            exact hk67_102 _ hf
          · have hf := ifn h8 hf
            refine r_aload_n (pc := 74) cx dX10_branches_74 0 rfl ?_
            refine r_get (pc := 75) cx cf_X10 0 26 rfl (by decide) rfl wd_1342 dX10_branches_75 ?_
            refine r_bipush (pc := 78) cx dX10_branches_78 bp_104 ?_
            refine r_iload (pc := 80) cx dX10_branches_80 3 rfl ?_
            refine r_iadd (pc := 82) cx dX10_branches_82 ?_
            refine r_iconst (pc := 83) cx dX10_branches_83 ic_1 ?_
            refine r_isub (pc := 84) cx dX10_branches_84 ?_
            refine r_aload_n (pc := 85) cx dX10_branches_85 0 rfl ?_
            refine r_get (pc := 86) cx cf_X10 0 26 rfl (by decide) rfl wd_1342 dX10_branches_86 ?_
            refine r_bipush (pc := 89) cx dX10_branches_89 bp_104 ?_
            refine r_iload (pc := 91) cx dX10_branches_91 3 rfl ?_
            refine r_iadd (pc := 93) cx dX10_branches_93 ?_
            obtain ⟨h9, hf⟩ := chk_of hf
            refine r_iald (pc := 94) cx 15 rfl h9 dX10_branches_94 ?_
            obtain ⟨x10, ex10, hf⟩ := nm_of hf
            refine r_nm ex10 ?_
            obtain ⟨h11, hf⟩ := chk_of hf
            obtain ⟨f12, ef12, hf⟩ := nm_of hf
            refine r_iast (pc := 95) (ws' := [((q 0), ob 9 [.int (M_thrown v), .ref (q 1), .int (M_taped (M_tp v)), .ref (q 2), .ref (q 3), .ref (q 4), .ref (q 5), .ref (q 6), .ref (q 7), .ref (q 8), .ref (q 9), .ref (q 10), .ref (q 11), .ref (q 12), .ref (q 13), .ref (q 14), .int (M_lines (M_rd v)), .int (M_size (M_rd v)), .int (M_at (M_rd v)), .int (M_place (M_rd v)), .int (M_sort (M_rd v)), .int (M_value (M_rd v)), .int (M_fault (M_rd v)), .int (M_faultPlace (M_rd v)), .int (M_lastFault (M_lf v)), .int (M_lastPlace (M_lf v)), .ref (q 15), .ref (q 16), .ref (q 17), .ref (q 18), .int (M_hasImage (M_im v)), .int (M_spanNow (M_rn v)), .ref (q 19), .int x1, .int (M_alonePlace (M_al v)), .int (M_aloneSteps (M_al v)), .int (M_aloneOut (M_al v)), .ref (q 20), .ref (q 21), .ref (q 22), .ref (q 23), .int (M_shotAlarm (M_ex v)), .int (M_drawn (M_ex v))]), ((q 1), aI K 700 (M_tape (M_tp v))), ((q 2), aI K 20 (M_number (M_cd v))), ((q 3), aZ K 5 (M_isTold (M_rd v))), ((q 4), aI K 80 (M_codeSort (M_cd v))), ((q 5), aI K 80 (M_codeA (M_cd v))), ((q 6), aI K 80 (M_codeB (M_cd v))), ((q 7), aI K 80 (M_codeC (M_cd v))), ((q 8), aI K 80 (M_codeName (M_cd v))), ((q 9), aI K 80 (M_codePlace (M_cd v))), ((q 10), aI K 80 (M_codeTo (M_cd v))), ((q 11), aI K 280 (M_labelName (M_cd v))), ((q 12), aI K 280 (M_labelAt (M_cd v))), ((q 13), aI K 64 (M_data (M_cd v))), ((q 14), aZ K 32 (M_hasData (M_rd v))), ((q 15), aI K 314 f12), ((q 16), aI K 314 (M_aside (M_ex v))), ((q 17), aI K 314 (M_further (M_ex v))), ((q 18), aI K 314 (M_image (M_im v))), ((q 19), aI K 3 (M_sizeNow (M_rn v))), ((q 20), aI K 8 (M_aloneRegister (M_al v))), ((q 21), aI K 4 (M_aloneReal (M_al v))), ((q 22), aI K 32 (M_aloneMemory (M_al v))), ((q 23), aI K 999 (M_aloneOutput (M_al v)))]) cx 15 rfl h11 dX10_branches_95 ef12 rfl ?_
            obtain ⟨x13, ex13, hf⟩ := nm_of hf
            refine r_iinc (pc := 96) (loc' := [(5, .int x13), (0, .ref (q 0)), (3, .int a3), (4, .int x4)]) (v := x13) cx dX10_branches_96 3 rfl ((congrArg (fun z => x5 + z) ic_1).trans ex13.symm) (by decide) rfl ?_
            refine r_goto (pc := 99) (tgt := 67) cx dX10_branches_99 (by decide) ?_
            refine r_loc (loc' := [(0, .ref (q 0)), (3, .int a3), (4, .int x4), (5, .int x13)]) [1, 2, 3, 0] rfl ?_
            exact ih67 _ _ hf
      refine r_loc (loc' := [(0, .ref (q 0)), (3, .int a3), (4, .int x4), (5, .int (1 : Int32))]) [2, 4, 1, 0] rfl ?_
      refine hL67 _ (fun f7 hf => ?_) _ _ _ hf
      refine r_aload_n (pc := 102) cx dX10_branches_102 0 rfl ?_
      refine r_get (pc := 103) cx cf_X10 0 26 rfl (by decide) rfl wd_1342 dX10_branches_103 ?_
      refine r_bipush (pc := 106) cx dX10_branches_106 bp_103 ?_
      refine r_dup2 (pc := 108) cx dX10_branches_108 rfl rfl ?_
      refine r_iald (pc := 109) cx 15 rfl (by decide) dX10_branches_109 ?_
      refine r_iconst (pc := 110) cx dX10_branches_110 ic_1 ?_
      refine r_isub (pc := 111) cx dX10_branches_111 ?_
      obtain ⟨x14, ex14, hf⟩ := nm_of hf
      refine r_nm ex14 ?_
      obtain ⟨f15, ef15, hf⟩ := nm_of hf
      refine r_iast (pc := 112) (ws' := [((q 0), ob 9 [.int (M_thrown v), .ref (q 1), .int (M_taped (M_tp v)), .ref (q 2), .ref (q 3), .ref (q 4), .ref (q 5), .ref (q 6), .ref (q 7), .ref (q 8), .ref (q 9), .ref (q 10), .ref (q 11), .ref (q 12), .ref (q 13), .ref (q 14), .int (M_lines (M_rd v)), .int (M_size (M_rd v)), .int (M_at (M_rd v)), .int (M_place (M_rd v)), .int (M_sort (M_rd v)), .int (M_value (M_rd v)), .int (M_fault (M_rd v)), .int (M_faultPlace (M_rd v)), .int (M_lastFault (M_lf v)), .int (M_lastPlace (M_lf v)), .ref (q 15), .ref (q 16), .ref (q 17), .ref (q 18), .int (M_hasImage (M_im v)), .int (M_spanNow (M_rn v)), .ref (q 19), .int x1, .int (M_alonePlace (M_al v)), .int (M_aloneSteps (M_al v)), .int (M_aloneOut (M_al v)), .ref (q 20), .ref (q 21), .ref (q 22), .ref (q 23), .int (M_shotAlarm (M_ex v)), .int (M_drawn (M_ex v))]), ((q 1), aI K 700 (M_tape (M_tp v))), ((q 2), aI K 20 (M_number (M_cd v))), ((q 3), aZ K 5 (M_isTold (M_rd v))), ((q 4), aI K 80 (M_codeSort (M_cd v))), ((q 5), aI K 80 (M_codeA (M_cd v))), ((q 6), aI K 80 (M_codeB (M_cd v))), ((q 7), aI K 80 (M_codeC (M_cd v))), ((q 8), aI K 80 (M_codeName (M_cd v))), ((q 9), aI K 80 (M_codePlace (M_cd v))), ((q 10), aI K 80 (M_codeTo (M_cd v))), ((q 11), aI K 280 (M_labelName (M_cd v))), ((q 12), aI K 280 (M_labelAt (M_cd v))), ((q 13), aI K 64 (M_data (M_cd v))), ((q 14), aZ K 32 (M_hasData (M_rd v))), ((q 15), aI K 314 f15), ((q 16), aI K 314 (M_aside (M_ex v))), ((q 17), aI K 314 (M_further (M_ex v))), ((q 18), aI K 314 (M_image (M_im v))), ((q 19), aI K 3 (M_sizeNow (M_rn v))), ((q 20), aI K 8 (M_aloneRegister (M_al v))), ((q 21), aI K 4 (M_aloneReal (M_al v))), ((q 22), aI K 32 (M_aloneMemory (M_al v))), ((q 23), aI K 999 (M_aloneOutput (M_al v)))]) cx 15 rfl (by decide) dX10_branches_112 ef15 rfl ?_
      refine r_iload (pc := 113) cx dX10_branches_113 2 rfl ?_
      refine r_iload_n (pc := 115) cx dX10_branches_115 1 rfl ?_
      refine r_if_eq (pc := 116) (tgt := 123) cx dX10_branches_116 (by decide) (fun h16 => ?_) (fun h16 => ?_)
      · have hf := ifp h16 hf
        refine r_iconst (pc := 123) cx dX10_branches_123 ic_0 ?_
        refine r_icmp_ne (pc := 124) (tgt := 131) cx dX10_branches_124 (by decide) (fun h17 => ?_) (fun h17 => ?_)
        · have hf := ifn h17 hf
          refine r_iconst (pc := 131) cx dX10_branches_131 ic_2 ?_
          cases hf
          exact r_iret (pc := 132) cx rfl rfl dX10_branches_132
        · have hf := ifp h17 hf
          refine r_iconst (pc := 127) cx dX10_branches_127 ic_0 ?_
          refine r_goto (pc := 128) (tgt := 132) cx dX10_branches_128 (by decide) ?_
          cases hf
          exact r_iret (pc := 132) cx rfl rfl dX10_branches_132
      · have hf := ifn h16 hf
        refine r_iconst (pc := 119) cx dX10_branches_119 ic_1 ?_
        refine r_goto (pc := 120) (tgt := 124) cx dX10_branches_120 (by decide) ?_
        refine r_icmp_ne (pc := 124) (tgt := 131) cx dX10_branches_124 (by decide) (fun h18 => ?_) (fun h18 => ?_)
        · have hf := ifn h18 hf
          refine r_iconst (pc := 131) cx dX10_branches_131 ic_2 ?_
          cases hf
          exact r_iret (pc := 132) cx rfl rfl dX10_branches_132
        · have hf := ifp h18 hf
          refine r_iconst (pc := 127) cx dX10_branches_127 ic_0 ?_
          refine r_goto (pc := 128) (tgt := 132) cx dX10_branches_128 (by decide) ?_
          cases hf
          exact r_iret (pc := 132) cx rfl rfl dX10_branches_132
    · have hf := ifp h3 hf
      refine r_aload_n (pc := 18) cx dX10_branches_18 0 rfl ?_
      refine r_get (pc := 19) cx cf_X10 0 26 rfl (by decide) rfl wd_1342 dX10_branches_19 ?_
      refine r_bipush (pc := 22) cx dX10_branches_22 bp_104 ?_
      refine r_aload_n (pc := 24) cx dX10_branches_24 0 rfl ?_
      refine r_get (pc := 25) cx cf_X10 0 26 rfl (by decide) rfl wd_1342 dX10_branches_25 ?_
      refine r_bipush (pc := 28) cx dX10_branches_28 bp_103 ?_
      refine r_iald (pc := 30) cx 15 rfl (by decide) dX10_branches_30 ?_
      refine r_iadd (pc := 31) cx dX10_branches_31 ?_
      refine r_iload_n (pc := 32) cx dX10_branches_32 2 rfl ?_
      obtain ⟨J20, eJ20, hf⟩ := nm_of hf
      have hJ20 : ∀ (y19 : Int32), J20 y19 = some (r_, o_v) → WW p l e rm_M_branches s m args below meth c D A 6 0 0 (MQ below (QI D K A r_ (cl_M K q o_v)) args s 0 0 A) ([((q 0), ob 9 [.int (M_thrown v), .ref (q 1), .int (M_taped (M_tp v)), .ref (q 2), .ref (q 3), .ref (q 4), .ref (q 5), .ref (q 6), .ref (q 7), .ref (q 8), .ref (q 9), .ref (q 10), .ref (q 11), .ref (q 12), .ref (q 13), .ref (q 14), .int (M_lines (M_rd v)), .int (M_size (M_rd v)), .int (M_at (M_rd v)), .int (M_place (M_rd v)), .int (M_sort (M_rd v)), .int (M_value (M_rd v)), .int (M_fault (M_rd v)), .int (M_faultPlace (M_rd v)), .int (M_lastFault (M_lf v)), .int (M_lastPlace (M_lf v)), .ref (q 15), .ref (q 16), .ref (q 17), .ref (q 18), .int (M_hasImage (M_im v)), .int (M_spanNow (M_rn v)), .ref (q 19), .int x1, .int (M_alonePlace (M_al v)), .int (M_aloneSteps (M_al v)), .int (M_aloneOut (M_al v)), .ref (q 20), .ref (q 21), .ref (q 22), .ref (q 23), .int (M_shotAlarm (M_ex v)), .int (M_drawn (M_ex v))]), ((q 1), aI K 700 (M_tape (M_tp v))), ((q 2), aI K 20 (M_number (M_cd v))), ((q 3), aZ K 5 (M_isTold (M_rd v))), ((q 4), aI K 80 (M_codeSort (M_cd v))), ((q 5), aI K 80 (M_codeA (M_cd v))), ((q 6), aI K 80 (M_codeB (M_cd v))), ((q 7), aI K 80 (M_codeC (M_cd v))), ((q 8), aI K 80 (M_codeName (M_cd v))), ((q 9), aI K 80 (M_codePlace (M_cd v))), ((q 10), aI K 80 (M_codeTo (M_cd v))), ((q 11), aI K 280 (M_labelName (M_cd v))), ((q 12), aI K 280 (M_labelAt (M_cd v))), ((q 13), aI K 64 (M_data (M_cd v))), ((q 14), aZ K 32 (M_hasData (M_rd v))), ((q 15), aI K 314 (M_s (M_rn v))), ((q 16), aI K 314 (M_aside (M_ex v))), ((q 17), aI K 314 (M_further (M_ex v))), ((q 18), aI K 314 (M_image (M_im v))), ((q 19), aI K 3 (M_sizeNow (M_rn v))), ((q 20), aI K 8 (M_aloneRegister (M_al v))), ((q 21), aI K 4 (M_aloneReal (M_al v))), ((q 22), aI K 32 (M_aloneMemory (M_al v))), ((q 23), aI K 999 (M_aloneOutput (M_al v)))]) ([(0, .ref (q 0))]) ([.int y19, .int ((104 : Int32) + ((M_s (M_rn v)) (103 : Int32).toNatClampNeg)), .ref (q 15)]) 41 := by
        intro y19 hf
        rw [eJ20] at hf
        obtain ⟨h21, hf⟩ := chk_of hf
        obtain ⟨f22, ef22, hf⟩ := nm_of hf
        refine r_iast (pc := 41) (ws' := [((q 0), ob 9 [.int (M_thrown v), .ref (q 1), .int (M_taped (M_tp v)), .ref (q 2), .ref (q 3), .ref (q 4), .ref (q 5), .ref (q 6), .ref (q 7), .ref (q 8), .ref (q 9), .ref (q 10), .ref (q 11), .ref (q 12), .ref (q 13), .ref (q 14), .int (M_lines (M_rd v)), .int (M_size (M_rd v)), .int (M_at (M_rd v)), .int (M_place (M_rd v)), .int (M_sort (M_rd v)), .int (M_value (M_rd v)), .int (M_fault (M_rd v)), .int (M_faultPlace (M_rd v)), .int (M_lastFault (M_lf v)), .int (M_lastPlace (M_lf v)), .ref (q 15), .ref (q 16), .ref (q 17), .ref (q 18), .int (M_hasImage (M_im v)), .int (M_spanNow (M_rn v)), .ref (q 19), .int x1, .int (M_alonePlace (M_al v)), .int (M_aloneSteps (M_al v)), .int (M_aloneOut (M_al v)), .ref (q 20), .ref (q 21), .ref (q 22), .ref (q 23), .int (M_shotAlarm (M_ex v)), .int (M_drawn (M_ex v))]), ((q 1), aI K 700 (M_tape (M_tp v))), ((q 2), aI K 20 (M_number (M_cd v))), ((q 3), aZ K 5 (M_isTold (M_rd v))), ((q 4), aI K 80 (M_codeSort (M_cd v))), ((q 5), aI K 80 (M_codeA (M_cd v))), ((q 6), aI K 80 (M_codeB (M_cd v))), ((q 7), aI K 80 (M_codeC (M_cd v))), ((q 8), aI K 80 (M_codeName (M_cd v))), ((q 9), aI K 80 (M_codePlace (M_cd v))), ((q 10), aI K 80 (M_codeTo (M_cd v))), ((q 11), aI K 280 (M_labelName (M_cd v))), ((q 12), aI K 280 (M_labelAt (M_cd v))), ((q 13), aI K 64 (M_data (M_cd v))), ((q 14), aZ K 32 (M_hasData (M_rd v))), ((q 15), aI K 314 f22), ((q 16), aI K 314 (M_aside (M_ex v))), ((q 17), aI K 314 (M_further (M_ex v))), ((q 18), aI K 314 (M_image (M_im v))), ((q 19), aI K 3 (M_sizeNow (M_rn v))), ((q 20), aI K 8 (M_aloneRegister (M_al v))), ((q 21), aI K 4 (M_aloneReal (M_al v))), ((q 22), aI K 32 (M_aloneMemory (M_al v))), ((q 23), aI K 999 (M_aloneOutput (M_al v)))]) cx 15 rfl h21 dX10_branches_41 ef22 rfl ?_
        refine r_aload_n (pc := 42) cx dX10_branches_42 0 rfl ?_
        refine r_get (pc := 43) cx cf_X10 0 26 rfl (by decide) rfl wd_1342 dX10_branches_43 ?_
        refine r_bipush (pc := 46) cx dX10_branches_46 bp_103 ?_
        refine r_dup2 (pc := 48) cx dX10_branches_48 rfl rfl ?_
        refine r_iald (pc := 49) cx 15 rfl (by decide) dX10_branches_49 ?_
        refine r_iconst (pc := 50) cx dX10_branches_50 ic_1 ?_
        refine r_iadd (pc := 51) cx dX10_branches_51 ?_
        obtain ⟨x23, ex23, hf⟩ := nm_of hf
        refine r_nm ex23 ?_
        obtain ⟨f24, ef24, hf⟩ := nm_of hf
        refine r_iast (pc := 52) (ws' := [((q 0), ob 9 [.int (M_thrown v), .ref (q 1), .int (M_taped (M_tp v)), .ref (q 2), .ref (q 3), .ref (q 4), .ref (q 5), .ref (q 6), .ref (q 7), .ref (q 8), .ref (q 9), .ref (q 10), .ref (q 11), .ref (q 12), .ref (q 13), .ref (q 14), .int (M_lines (M_rd v)), .int (M_size (M_rd v)), .int (M_at (M_rd v)), .int (M_place (M_rd v)), .int (M_sort (M_rd v)), .int (M_value (M_rd v)), .int (M_fault (M_rd v)), .int (M_faultPlace (M_rd v)), .int (M_lastFault (M_lf v)), .int (M_lastPlace (M_lf v)), .ref (q 15), .ref (q 16), .ref (q 17), .ref (q 18), .int (M_hasImage (M_im v)), .int (M_spanNow (M_rn v)), .ref (q 19), .int x1, .int (M_alonePlace (M_al v)), .int (M_aloneSteps (M_al v)), .int (M_aloneOut (M_al v)), .ref (q 20), .ref (q 21), .ref (q 22), .ref (q 23), .int (M_shotAlarm (M_ex v)), .int (M_drawn (M_ex v))]), ((q 1), aI K 700 (M_tape (M_tp v))), ((q 2), aI K 20 (M_number (M_cd v))), ((q 3), aZ K 5 (M_isTold (M_rd v))), ((q 4), aI K 80 (M_codeSort (M_cd v))), ((q 5), aI K 80 (M_codeA (M_cd v))), ((q 6), aI K 80 (M_codeB (M_cd v))), ((q 7), aI K 80 (M_codeC (M_cd v))), ((q 8), aI K 80 (M_codeName (M_cd v))), ((q 9), aI K 80 (M_codePlace (M_cd v))), ((q 10), aI K 80 (M_codeTo (M_cd v))), ((q 11), aI K 280 (M_labelName (M_cd v))), ((q 12), aI K 280 (M_labelAt (M_cd v))), ((q 13), aI K 64 (M_data (M_cd v))), ((q 14), aZ K 32 (M_hasData (M_rd v))), ((q 15), aI K 314 f24), ((q 16), aI K 314 (M_aside (M_ex v))), ((q 17), aI K 314 (M_further (M_ex v))), ((q 18), aI K 314 (M_image (M_im v))), ((q 19), aI K 3 (M_sizeNow (M_rn v))), ((q 20), aI K 8 (M_aloneRegister (M_al v))), ((q 21), aI K 4 (M_aloneReal (M_al v))), ((q 22), aI K 32 (M_aloneMemory (M_al v))), ((q 23), aI K 999 (M_aloneOutput (M_al v)))]) cx 15 rfl (by decide) dX10_branches_52 ef24 rfl ?_
        refine r_iconst (pc := 53) cx dX10_branches_53 ic_0 ?_
        cases hf
        exact r_iret (pc := 54) cx rfl rfl dX10_branches_54
      refine r_if_eq (pc := 33) (tgt := 40) cx dX10_branches_33 (by decide) (fun h25 => ?_) (fun h25 => ?_)
      · have hf := ifp h25 hf
        refine r_iconst (pc := 40) cx dX10_branches_40 ic_0 ?_
        refine r_loc (loc' := [(0, .ref (q 0))]) [0] rfl ?_
        exact hJ20 _ hf
      · have hf := ifn h25 hf
        refine r_iconst (pc := 36) cx dX10_branches_36 ic_1 ?_
        refine r_goto (pc := 37) (tgt := 41) cx dX10_branches_37 (by decide) ?_
        refine r_loc (loc' := [(0, .ref (q 0))]) [0] rfl ?_
        exact hJ20 _ hf
  refine r_if_eq (pc := 1) (tgt := 14) cx dX10_branches_1 (by decide) (fun h26 => ?_) (fun h26 => ?_)
  · have hf := ifp h26 hf
    refine r_loc (loc' := [(0, .ref (q 0)), (1, .int a1), (3, .int a3)]) [0, 1, 3] rfl ?_
    exact hJ2 _ hf
  · have hf := ifn h26 hf
    refine r_aload_n (pc := 4) cx dX10_branches_4 0 rfl ?_
    refine r_aload_n (pc := 5) cx dX10_branches_5 0 rfl ?_
    refine r_get (pc := 6) cx cf_X10 0 11 rfl (by decide) rfl wd_1327 dX10_branches_6 ?_
    refine r_iload_n (pc := 9) cx dX10_branches_9 2 rfl ?_
    obtain ⟨h27, hf⟩ := chk_of hf
    refine r_iald (pc := 10) cx 10 rfl h27 dX10_branches_10 ?_
    obtain ⟨x28, ex28, hf⟩ := nm_of hf
    refine r_nm ex28 ?_
    refine r_putI (pc := 11) (ws' := [((q 0), ob 9 [.int (M_thrown v), .ref (q 1), .int (M_taped (M_tp v)), .ref (q 2), .ref (q 3), .ref (q 4), .ref (q 5), .ref (q 6), .ref (q 7), .ref (q 8), .ref (q 9), .ref (q 10), .ref (q 11), .ref (q 12), .ref (q 13), .ref (q 14), .int (M_lines (M_rd v)), .int (M_size (M_rd v)), .int (M_at (M_rd v)), .int (M_place (M_rd v)), .int (M_sort (M_rd v)), .int (M_value (M_rd v)), .int (M_fault (M_rd v)), .int (M_faultPlace (M_rd v)), .int (M_lastFault (M_lf v)), .int (M_lastPlace (M_lf v)), .ref (q 15), .ref (q 16), .ref (q 17), .ref (q 18), .int (M_hasImage (M_im v)), .int (M_spanNow (M_rn v)), .ref (q 19), .int x28, .int (M_alonePlace (M_al v)), .int (M_aloneSteps (M_al v)), .int (M_aloneOut (M_al v)), .ref (q 20), .ref (q 21), .ref (q 22), .ref (q 23), .int (M_shotAlarm (M_ex v)), .int (M_drawn (M_ex v))]), ((q 1), aI K 700 (M_tape (M_tp v))), ((q 2), aI K 20 (M_number (M_cd v))), ((q 3), aZ K 5 (M_isTold (M_rd v))), ((q 4), aI K 80 (M_codeSort (M_cd v))), ((q 5), aI K 80 (M_codeA (M_cd v))), ((q 6), aI K 80 (M_codeB (M_cd v))), ((q 7), aI K 80 (M_codeC (M_cd v))), ((q 8), aI K 80 (M_codeName (M_cd v))), ((q 9), aI K 80 (M_codePlace (M_cd v))), ((q 10), aI K 80 (M_codeTo (M_cd v))), ((q 11), aI K 280 (M_labelName (M_cd v))), ((q 12), aI K 280 (M_labelAt (M_cd v))), ((q 13), aI K 64 (M_data (M_cd v))), ((q 14), aZ K 32 (M_hasData (M_rd v))), ((q 15), aI K 314 (M_s (M_rn v))), ((q 16), aI K 314 (M_aside (M_ex v))), ((q 17), aI K 314 (M_further (M_ex v))), ((q 18), aI K 314 (M_image (M_im v))), ((q 19), aI K 3 (M_sizeNow (M_rn v))), ((q 20), aI K 8 (M_aloneRegister (M_al v))), ((q 21), aI K 4 (M_aloneReal (M_al v))), ((q 22), aI K 32 (M_aloneMemory (M_al v))), ((q 23), aI K 999 (M_aloneOutput (M_al v)))]) cx cf_X10 0 33 rfl (by decide) (Nat.le_of_ble_eq_true rfl) rfl pfd_I wd_1349 dX10_branches_11 rfl ?_
    refine r_loc (loc' := [(0, .ref (q 0)), (1, .int a1), (3, .int a3)]) [0, 1, 3] rfl ?_
    exact hJ2 _ hf
theorem yv_X10_branches : YV yX10_branches cX10_branches 6 (some .int) 3 := ⟨⟨by decide +kernel, by decide +kernel, by decide +kernel⟩, wd_1666, wd_102, wd_1665, wd_66⟩
