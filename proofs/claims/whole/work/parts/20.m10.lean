def f_M_isIn (a0 : Int32) (a1 : Int32) : Option (Int32) :=
  (if a0 < (0 : Int32) then (some (0 : Int32)) else (if a1 ≤ a0 then (some (0 : Int32)) else (some (1 : Int32))))
abbrev rm_M_isIn : Room := { frames := 0, cells := 0, slots := 0, locals := 0 }
set_option maxRecDepth 100000 in
set_option maxHeartbeats 4000000 in
theorem m_M_isIn (l : Launch) (D : va_G) (K : Nat → ClassId) (a0 : Int32) (a1 : Int32) {r_ : Int32} (hf : f_M_isIn a0 a1 = some r_) : MI l yX10_isIn cX10_isIn 2 (some .boolean) rm_M_isIn D K [.int a0, .int a1] ([]) r_ ([]) := by
  refine MI_of (loc0 := [(0, .int a0), (1, .int a1)]) (by decide +kernel) rfl (Nat.le_of_ble_eq_true rfl) ?_
  intro p e s m args below meth c A cx
  unfold f_M_isIn at hf
  refine r_ws (ws' := []) rfl ?_
  refine r_iload_n (pc := 0) cx dX10_isIn_0 0 rfl ?_
  refine r_if_lt (pc := 1) (tgt := 13) cx dX10_isIn_1 (by decide) (fun h1 => ?_) (fun h1 => ?_)
  · have hf := ifp h1 hf
    refine r_iconst (pc := 13) cx dX10_isIn_13 ic_0 ?_
    cases hf
    exact r_zret (pc := 14) cx (Or.inl rfl) rfl rfl dX10_isIn_14
  · have hf := ifn h1 hf
    refine r_iload_n (pc := 4) cx dX10_isIn_4 0 rfl ?_
    refine r_iload_n (pc := 5) cx dX10_isIn_5 1 rfl ?_
    refine r_icmp_ge (pc := 6) (tgt := 13) cx dX10_isIn_6 (by decide) (fun h2 => ?_) (fun h2 => ?_)
    · have hf := ifp h2 hf
      refine r_iconst (pc := 13) cx dX10_isIn_13 ic_0 ?_
      cases hf
      exact r_zret (pc := 14) cx (Or.inl rfl) rfl rfl dX10_isIn_14
    · have hf := ifn h2 hf
      refine r_iconst (pc := 9) cx dX10_isIn_9 ic_1 ?_
      refine r_goto (pc := 10) (tgt := 14) cx dX10_isIn_10 (by decide) ?_
      cases hf
      exact r_zret (pc := 14) cx (Or.inr rfl) rfl rfl dX10_isIn_14
theorem ys_X10_isIn : YS yX10_isIn cX10_isIn 2 (some .boolean) 2 := ⟨⟨by decide +kernel, by decide +kernel, by decide +kernel⟩, wd_1739, wd_102, wd_1738⟩
def f_M_register_ (v : T_M) (a1 : Int32) (a2 : Int32) : Option (Int32 × T_M) :=
  (bd (f_M_isIn a1 (2 : Int32)) fun (r1 : Int32) => (if r1 = (0 : Int32) then (some ((0 : Int32), ((M_tp v), (M_rd v), (M_lf v), (M_cd v), (M_rn v), (M_ex v), (M_im v), (M_al v), (0 : Int32)))) else (bd (f_M_isIn a2 (8 : Int32)) fun (r4 : Int32) => (if r4 = (0 : Int32) then (some ((0 : Int32), ((M_tp v), (M_rd v), (M_lf v), (M_cd v), (M_rn v), (M_ex v), (M_im v), (M_al v), (0 : Int32)))) else (if ix (((4 : Int32) + ((8 : Int32) * a1)) + a2) 314 then (some (((M_s (M_rn v)) ((((4 : Int32) + ((8 : Int32) * a1)) + a2)).toNatClampNeg), ((M_tp v), (M_rd v), (M_lf v), (M_cd v), (M_rn v), (M_ex v), (M_im v), (M_al v), (0 : Int32)))) else none)))))
abbrev rm_M_register_ : Room := { frames := 1, cells := 0, slots := 0, locals := 21 }
set_option maxRecDepth 100000 in
set_option maxHeartbeats 4000000 in
theorem m_M_register_ (l : Launch) (D : va_G) (K : Nat → ClassId) (q : Nat → Nat) (v : T_M) (a1 : Int32) (a2 : Int32) {r_ : Int32} {o_v : T_M} (hf : f_M_register_ v a1 a2 = some (r_, o_v)) : MI l yX10_register_ cX10_register_ 3 (some .int) rm_M_register_ D K [.ref (q 0), .int a1, .int a2] (cl_M K q v) r_ (cl_M K q o_v) := by
  refine MI_of (loc0 := [(0, .ref (q 0)), (1, .int a1), (2, .int a2)]) (by decide +kernel) rfl (Nat.le_of_ble_eq_true rfl) ?_
  intro p e s m args below meth c A cx
  unfold f_M_register_ at hf
  refine r_ws (ws' := [((q 0), ob 9 [.int (M_thrown v), .ref (q 1), .int (M_taped (M_tp v)), .ref (q 2), .ref (q 3), .ref (q 4), .ref (q 5), .ref (q 6), .ref (q 7), .ref (q 8), .ref (q 9), .ref (q 10), .ref (q 11), .ref (q 12), .ref (q 13), .ref (q 14), .int (M_lines (M_rd v)), .int (M_size (M_rd v)), .int (M_at (M_rd v)), .int (M_place (M_rd v)), .int (M_sort (M_rd v)), .int (M_value (M_rd v)), .int (M_fault (M_rd v)), .int (M_faultPlace (M_rd v)), .int (M_lastFault (M_lf v)), .int (M_lastPlace (M_lf v)), .ref (q 15), .ref (q 16), .ref (q 17), .ref (q 18), .int (M_hasImage (M_im v)), .int (M_spanNow (M_rn v)), .ref (q 19), .int (M_placeThen (M_rn v)), .int (M_alonePlace (M_al v)), .int (M_aloneSteps (M_al v)), .int (M_aloneOut (M_al v)), .ref (q 20), .ref (q 21), .ref (q 22), .ref (q 23), .int (M_shotAlarm (M_ex v)), .int (M_drawn (M_ex v))]), ((q 1), aI K 700 (M_tape (M_tp v))), ((q 2), aI K 20 (M_number (M_cd v))), ((q 3), aZ K 5 (M_isTold (M_rd v))), ((q 4), aI K 80 (M_codeSort (M_cd v))), ((q 5), aI K 80 (M_codeA (M_cd v))), ((q 6), aI K 80 (M_codeB (M_cd v))), ((q 7), aI K 80 (M_codeC (M_cd v))), ((q 8), aI K 80 (M_codeName (M_cd v))), ((q 9), aI K 80 (M_codePlace (M_cd v))), ((q 10), aI K 80 (M_codeTo (M_cd v))), ((q 11), aI K 280 (M_labelName (M_cd v))), ((q 12), aI K 280 (M_labelAt (M_cd v))), ((q 13), aI K 64 (M_data (M_cd v))), ((q 14), aZ K 32 (M_hasData (M_rd v))), ((q 15), aI K 314 (M_s (M_rn v))), ((q 16), aI K 314 (M_aside (M_ex v))), ((q 17), aI K 314 (M_further (M_ex v))), ((q 18), aI K 314 (M_image (M_im v))), ((q 19), aI K 3 (M_sizeNow (M_rn v))), ((q 20), aI K 8 (M_aloneRegister (M_al v))), ((q 21), aI K 4 (M_aloneReal (M_al v))), ((q 22), aI K 32 (M_aloneMemory (M_al v))), ((q 23), aI K 999 (M_aloneOutput (M_al v)))]) rfl ?_
  refine r_aload_n (pc := 0) cx dX10_register__0 0 rfl ?_
  refine r_iconst (pc := 1) cx dX10_register__1 ic_0 ?_
  refine r_putI (pc := 2) (ws' := [((q 0), ob 9 [.int (0 : Int32), .ref (q 1), .int (M_taped (M_tp v)), .ref (q 2), .ref (q 3), .ref (q 4), .ref (q 5), .ref (q 6), .ref (q 7), .ref (q 8), .ref (q 9), .ref (q 10), .ref (q 11), .ref (q 12), .ref (q 13), .ref (q 14), .int (M_lines (M_rd v)), .int (M_size (M_rd v)), .int (M_at (M_rd v)), .int (M_place (M_rd v)), .int (M_sort (M_rd v)), .int (M_value (M_rd v)), .int (M_fault (M_rd v)), .int (M_faultPlace (M_rd v)), .int (M_lastFault (M_lf v)), .int (M_lastPlace (M_lf v)), .ref (q 15), .ref (q 16), .ref (q 17), .ref (q 18), .int (M_hasImage (M_im v)), .int (M_spanNow (M_rn v)), .ref (q 19), .int (M_placeThen (M_rn v)), .int (M_alonePlace (M_al v)), .int (M_aloneSteps (M_al v)), .int (M_aloneOut (M_al v)), .ref (q 20), .ref (q 21), .ref (q 22), .ref (q 23), .int (M_shotAlarm (M_ex v)), .int (M_drawn (M_ex v))]), ((q 1), aI K 700 (M_tape (M_tp v))), ((q 2), aI K 20 (M_number (M_cd v))), ((q 3), aZ K 5 (M_isTold (M_rd v))), ((q 4), aI K 80 (M_codeSort (M_cd v))), ((q 5), aI K 80 (M_codeA (M_cd v))), ((q 6), aI K 80 (M_codeB (M_cd v))), ((q 7), aI K 80 (M_codeC (M_cd v))), ((q 8), aI K 80 (M_codeName (M_cd v))), ((q 9), aI K 80 (M_codePlace (M_cd v))), ((q 10), aI K 80 (M_codeTo (M_cd v))), ((q 11), aI K 280 (M_labelName (M_cd v))), ((q 12), aI K 280 (M_labelAt (M_cd v))), ((q 13), aI K 64 (M_data (M_cd v))), ((q 14), aZ K 32 (M_hasData (M_rd v))), ((q 15), aI K 314 (M_s (M_rn v))), ((q 16), aI K 314 (M_aside (M_ex v))), ((q 17), aI K 314 (M_further (M_ex v))), ((q 18), aI K 314 (M_image (M_im v))), ((q 19), aI K 3 (M_sizeNow (M_rn v))), ((q 20), aI K 8 (M_aloneRegister (M_al v))), ((q 21), aI K 4 (M_aloneReal (M_al v))), ((q 22), aI K 32 (M_aloneMemory (M_al v))), ((q 23), aI K 999 (M_aloneOutput (M_al v)))]) cx cf_X10 0 0 rfl (by decide) (Nat.le_of_ble_eq_true rfl) rfl pfd_I wd_1316 dX10_register__2 rfl ?_
  refine r_iload_n (pc := 5) cx dX10_register__5 1 rfl ?_
  refine r_iconst (pc := 6) cx dX10_register__6 ic_2 ?_
  obtain ⟨r1, hc2, hf⟩ := bd_of hf
  refine r_Si (pc := 7) (ws' := [((q 0), ob 9 [.int (0 : Int32), .ref (q 1), .int (M_taped (M_tp v)), .ref (q 2), .ref (q 3), .ref (q 4), .ref (q 5), .ref (q 6), .ref (q 7), .ref (q 8), .ref (q 9), .ref (q 10), .ref (q 11), .ref (q 12), .ref (q 13), .ref (q 14), .int (M_lines (M_rd v)), .int (M_size (M_rd v)), .int (M_at (M_rd v)), .int (M_place (M_rd v)), .int (M_sort (M_rd v)), .int (M_value (M_rd v)), .int (M_fault (M_rd v)), .int (M_faultPlace (M_rd v)), .int (M_lastFault (M_lf v)), .int (M_lastPlace (M_lf v)), .ref (q 15), .ref (q 16), .ref (q 17), .ref (q 18), .int (M_hasImage (M_im v)), .int (M_spanNow (M_rn v)), .ref (q 19), .int (M_placeThen (M_rn v)), .int (M_alonePlace (M_al v)), .int (M_aloneSteps (M_al v)), .int (M_aloneOut (M_al v)), .ref (q 20), .ref (q 21), .ref (q 22), .ref (q 23), .int (M_shotAlarm (M_ex v)), .int (M_drawn (M_ex v))]), ((q 1), aI K 700 (M_tape (M_tp v))), ((q 2), aI K 20 (M_number (M_cd v))), ((q 3), aZ K 5 (M_isTold (M_rd v))), ((q 4), aI K 80 (M_codeSort (M_cd v))), ((q 5), aI K 80 (M_codeA (M_cd v))), ((q 6), aI K 80 (M_codeB (M_cd v))), ((q 7), aI K 80 (M_codeC (M_cd v))), ((q 8), aI K 80 (M_codeName (M_cd v))), ((q 9), aI K 80 (M_codePlace (M_cd v))), ((q 10), aI K 80 (M_codeTo (M_cd v))), ((q 11), aI K 280 (M_labelName (M_cd v))), ((q 12), aI K 280 (M_labelAt (M_cd v))), ((q 13), aI K 64 (M_data (M_cd v))), ((q 14), aZ K 32 (M_hasData (M_rd v))), ((q 15), aI K 314 (M_s (M_rn v))), ((q 16), aI K 314 (M_aside (M_ex v))), ((q 17), aI K 314 (M_further (M_ex v))), ((q 18), aI K 314 (M_image (M_im v))), ((q 19), aI K 3 (M_sizeNow (M_rn v))), ((q 20), aI K 8 (M_aloneRegister (M_al v))), ((q 21), aI K 4 (M_aloneReal (M_al v))), ((q 22), aI K 32 (M_aloneMemory (M_al v))), ((q 23), aI K 999 (M_aloneOutput (M_al v)))]) (nn := 0) cx [.int a1, .int (2 : Int32)] [] (m_M_isIn l D K a1 (2 : Int32) hc2) ys_X10_isIn wd_1737 ⟨rfl, rfl⟩ (by decide) (fr_k (fr_k (fr_k (fr_k (fr_k (fr_k (fr_k (fr_k (fr_k (fr_k (fr_k (fr_k (fr_k (fr_k (fr_k (fr_k (fr_k (fr_k (fr_k (fr_k (fr_k (fr_k (fr_k (fr_k (fr_n))))))))))))))))))))))))) rfl (by decide) rfl (Nat.le_of_ble_eq_true rfl) dX10_register__7 ?_
  refine r_if_eq (pc := 10) (tgt := 38) cx dX10_register__10 (by decide) (fun h3 => ?_) (fun h3 => ?_)
  · have hf := ifp h3 hf
    refine r_iconst (pc := 38) cx dX10_register__38 ic_0 ?_
    cases hf
    exact r_iret (pc := 39) cx rfl rfl dX10_register__39
  · have hf := ifn h3 hf
    refine r_iload_n (pc := 13) cx dX10_register__13 2 rfl ?_
    refine r_bipush (pc := 14) cx dX10_register__14 bp_8 ?_
    obtain ⟨r4, hc5, hf⟩ := bd_of hf
    refine r_Si (pc := 16) (ws' := [((q 0), ob 9 [.int (0 : Int32), .ref (q 1), .int (M_taped (M_tp v)), .ref (q 2), .ref (q 3), .ref (q 4), .ref (q 5), .ref (q 6), .ref (q 7), .ref (q 8), .ref (q 9), .ref (q 10), .ref (q 11), .ref (q 12), .ref (q 13), .ref (q 14), .int (M_lines (M_rd v)), .int (M_size (M_rd v)), .int (M_at (M_rd v)), .int (M_place (M_rd v)), .int (M_sort (M_rd v)), .int (M_value (M_rd v)), .int (M_fault (M_rd v)), .int (M_faultPlace (M_rd v)), .int (M_lastFault (M_lf v)), .int (M_lastPlace (M_lf v)), .ref (q 15), .ref (q 16), .ref (q 17), .ref (q 18), .int (M_hasImage (M_im v)), .int (M_spanNow (M_rn v)), .ref (q 19), .int (M_placeThen (M_rn v)), .int (M_alonePlace (M_al v)), .int (M_aloneSteps (M_al v)), .int (M_aloneOut (M_al v)), .ref (q 20), .ref (q 21), .ref (q 22), .ref (q 23), .int (M_shotAlarm (M_ex v)), .int (M_drawn (M_ex v))]), ((q 1), aI K 700 (M_tape (M_tp v))), ((q 2), aI K 20 (M_number (M_cd v))), ((q 3), aZ K 5 (M_isTold (M_rd v))), ((q 4), aI K 80 (M_codeSort (M_cd v))), ((q 5), aI K 80 (M_codeA (M_cd v))), ((q 6), aI K 80 (M_codeB (M_cd v))), ((q 7), aI K 80 (M_codeC (M_cd v))), ((q 8), aI K 80 (M_codeName (M_cd v))), ((q 9), aI K 80 (M_codePlace (M_cd v))), ((q 10), aI K 80 (M_codeTo (M_cd v))), ((q 11), aI K 280 (M_labelName (M_cd v))), ((q 12), aI K 280 (M_labelAt (M_cd v))), ((q 13), aI K 64 (M_data (M_cd v))), ((q 14), aZ K 32 (M_hasData (M_rd v))), ((q 15), aI K 314 (M_s (M_rn v))), ((q 16), aI K 314 (M_aside (M_ex v))), ((q 17), aI K 314 (M_further (M_ex v))), ((q 18), aI K 314 (M_image (M_im v))), ((q 19), aI K 3 (M_sizeNow (M_rn v))), ((q 20), aI K 8 (M_aloneRegister (M_al v))), ((q 21), aI K 4 (M_aloneReal (M_al v))), ((q 22), aI K 32 (M_aloneMemory (M_al v))), ((q 23), aI K 999 (M_aloneOutput (M_al v)))]) (nn := 0) cx [.int a2, .int (8 : Int32)] [] (m_M_isIn l D K a2 (8 : Int32) hc5) ys_X10_isIn wd_1737 ⟨rfl, rfl⟩ (by decide) (fr_k (fr_k (fr_k (fr_k (fr_k (fr_k (fr_k (fr_k (fr_k (fr_k (fr_k (fr_k (fr_k (fr_k (fr_k (fr_k (fr_k (fr_k (fr_k (fr_k (fr_k (fr_k (fr_k (fr_k (fr_n))))))))))))))))))))))))) rfl (by decide) rfl (Nat.le_of_ble_eq_true rfl) dX10_register__16 ?_
    refine r_if_eq (pc := 19) (tgt := 38) cx dX10_register__19 (by decide) (fun h6 => ?_) (fun h6 => ?_)
    · have hf := ifp h6 hf
      refine r_iconst (pc := 38) cx dX10_register__38 ic_0 ?_
      cases hf
      exact r_iret (pc := 39) cx rfl rfl dX10_register__39
    · have hf := ifn h6 hf
      refine r_aload_n (pc := 22) cx dX10_register__22 0 rfl ?_
      refine r_get (pc := 23) cx cf_X10 0 26 rfl (by decide) rfl wd_1342 dX10_register__23 ?_
      refine r_iconst (pc := 26) cx dX10_register__26 ic_4 ?_
      refine r_bipush (pc := 27) cx dX10_register__27 bp_8 ?_
      refine r_iload_n (pc := 29) cx dX10_register__29 1 rfl ?_
      refine r_imul (pc := 30) cx dX10_register__30 ?_
      refine r_iadd (pc := 31) cx dX10_register__31 ?_
      refine r_iload_n (pc := 32) cx dX10_register__32 2 rfl ?_
      refine r_iadd (pc := 33) cx dX10_register__33 ?_
      obtain ⟨h7, hf⟩ := chk_of hf
      refine r_iald (pc := 34) cx 15 rfl h7 dX10_register__34 ?_
      refine r_goto (pc := 35) (tgt := 39) cx dX10_register__35 (by decide) ?_
      cases hf
      exact r_iret (pc := 39) cx rfl rfl dX10_register__39
theorem yv_X10_register_ : YV yX10_register_ cX10_register_ 3 (some .int) 2 := ⟨⟨by decide +kernel, by decide +kernel, by decide +kernel⟩, wd_1736, wd_102, wd_1734, wd_1735⟩
def f_M_real (v : T_M) (a1 : Int32) (a2 : Int32) : Option (Int32 × T_M) :=
  (bd (f_M_isIn a1 (2 : Int32)) fun (r1 : Int32) => (if r1 = (0 : Int32) then (some ((0 : Int32), ((M_tp v), (M_rd v), (M_lf v), (M_cd v), (M_rn v), (M_ex v), (M_im v), (M_al v), (0 : Int32)))) else (bd (f_M_isIn a2 (4 : Int32)) fun (r4 : Int32) => (if r4 = (0 : Int32) then (some ((0 : Int32), ((M_tp v), (M_rd v), (M_lf v), (M_cd v), (M_rn v), (M_ex v), (M_im v), (M_al v), (0 : Int32)))) else (if ix (((20 : Int32) + ((4 : Int32) * a1)) + a2) 314 then (some (((M_s (M_rn v)) ((((20 : Int32) + ((4 : Int32) * a1)) + a2)).toNatClampNeg), ((M_tp v), (M_rd v), (M_lf v), (M_cd v), (M_rn v), (M_ex v), (M_im v), (M_al v), (0 : Int32)))) else none)))))
abbrev rm_M_real : Room := { frames := 1, cells := 0, slots := 0, locals := 21 }
set_option maxRecDepth 100000 in
set_option maxHeartbeats 4000000 in
theorem m_M_real (l : Launch) (D : va_G) (K : Nat → ClassId) (q : Nat → Nat) (v : T_M) (a1 : Int32) (a2 : Int32) {r_ : Int32} {o_v : T_M} (hf : f_M_real v a1 a2 = some (r_, o_v)) : MI l yX10_real cX10_real 3 (some .int) rm_M_real D K [.ref (q 0), .int a1, .int a2] (cl_M K q v) r_ (cl_M K q o_v) := by
  refine MI_of (loc0 := [(0, .ref (q 0)), (1, .int a1), (2, .int a2)]) (by decide +kernel) rfl (Nat.le_of_ble_eq_true rfl) ?_
  intro p e s m args below meth c A cx
  unfold f_M_real at hf
  refine r_ws (ws' := [((q 0), ob 9 [.int (M_thrown v), .ref (q 1), .int (M_taped (M_tp v)), .ref (q 2), .ref (q 3), .ref (q 4), .ref (q 5), .ref (q 6), .ref (q 7), .ref (q 8), .ref (q 9), .ref (q 10), .ref (q 11), .ref (q 12), .ref (q 13), .ref (q 14), .int (M_lines (M_rd v)), .int (M_size (M_rd v)), .int (M_at (M_rd v)), .int (M_place (M_rd v)), .int (M_sort (M_rd v)), .int (M_value (M_rd v)), .int (M_fault (M_rd v)), .int (M_faultPlace (M_rd v)), .int (M_lastFault (M_lf v)), .int (M_lastPlace (M_lf v)), .ref (q 15), .ref (q 16), .ref (q 17), .ref (q 18), .int (M_hasImage (M_im v)), .int (M_spanNow (M_rn v)), .ref (q 19), .int (M_placeThen (M_rn v)), .int (M_alonePlace (M_al v)), .int (M_aloneSteps (M_al v)), .int (M_aloneOut (M_al v)), .ref (q 20), .ref (q 21), .ref (q 22), .ref (q 23), .int (M_shotAlarm (M_ex v)), .int (M_drawn (M_ex v))]), ((q 1), aI K 700 (M_tape (M_tp v))), ((q 2), aI K 20 (M_number (M_cd v))), ((q 3), aZ K 5 (M_isTold (M_rd v))), ((q 4), aI K 80 (M_codeSort (M_cd v))), ((q 5), aI K 80 (M_codeA (M_cd v))), ((q 6), aI K 80 (M_codeB (M_cd v))), ((q 7), aI K 80 (M_codeC (M_cd v))), ((q 8), aI K 80 (M_codeName (M_cd v))), ((q 9), aI K 80 (M_codePlace (M_cd v))), ((q 10), aI K 80 (M_codeTo (M_cd v))), ((q 11), aI K 280 (M_labelName (M_cd v))), ((q 12), aI K 280 (M_labelAt (M_cd v))), ((q 13), aI K 64 (M_data (M_cd v))), ((q 14), aZ K 32 (M_hasData (M_rd v))), ((q 15), aI K 314 (M_s (M_rn v))), ((q 16), aI K 314 (M_aside (M_ex v))), ((q 17), aI K 314 (M_further (M_ex v))), ((q 18), aI K 314 (M_image (M_im v))), ((q 19), aI K 3 (M_sizeNow (M_rn v))), ((q 20), aI K 8 (M_aloneRegister (M_al v))), ((q 21), aI K 4 (M_aloneReal (M_al v))), ((q 22), aI K 32 (M_aloneMemory (M_al v))), ((q 23), aI K 999 (M_aloneOutput (M_al v)))]) rfl ?_
  refine r_aload_n (pc := 0) cx dX10_real_0 0 rfl ?_
  refine r_iconst (pc := 1) cx dX10_real_1 ic_0 ?_
  refine r_putI (pc := 2) (ws' := [((q 0), ob 9 [.int (0 : Int32), .ref (q 1), .int (M_taped (M_tp v)), .ref (q 2), .ref (q 3), .ref (q 4), .ref (q 5), .ref (q 6), .ref (q 7), .ref (q 8), .ref (q 9), .ref (q 10), .ref (q 11), .ref (q 12), .ref (q 13), .ref (q 14), .int (M_lines (M_rd v)), .int (M_size (M_rd v)), .int (M_at (M_rd v)), .int (M_place (M_rd v)), .int (M_sort (M_rd v)), .int (M_value (M_rd v)), .int (M_fault (M_rd v)), .int (M_faultPlace (M_rd v)), .int (M_lastFault (M_lf v)), .int (M_lastPlace (M_lf v)), .ref (q 15), .ref (q 16), .ref (q 17), .ref (q 18), .int (M_hasImage (M_im v)), .int (M_spanNow (M_rn v)), .ref (q 19), .int (M_placeThen (M_rn v)), .int (M_alonePlace (M_al v)), .int (M_aloneSteps (M_al v)), .int (M_aloneOut (M_al v)), .ref (q 20), .ref (q 21), .ref (q 22), .ref (q 23), .int (M_shotAlarm (M_ex v)), .int (M_drawn (M_ex v))]), ((q 1), aI K 700 (M_tape (M_tp v))), ((q 2), aI K 20 (M_number (M_cd v))), ((q 3), aZ K 5 (M_isTold (M_rd v))), ((q 4), aI K 80 (M_codeSort (M_cd v))), ((q 5), aI K 80 (M_codeA (M_cd v))), ((q 6), aI K 80 (M_codeB (M_cd v))), ((q 7), aI K 80 (M_codeC (M_cd v))), ((q 8), aI K 80 (M_codeName (M_cd v))), ((q 9), aI K 80 (M_codePlace (M_cd v))), ((q 10), aI K 80 (M_codeTo (M_cd v))), ((q 11), aI K 280 (M_labelName (M_cd v))), ((q 12), aI K 280 (M_labelAt (M_cd v))), ((q 13), aI K 64 (M_data (M_cd v))), ((q 14), aZ K 32 (M_hasData (M_rd v))), ((q 15), aI K 314 (M_s (M_rn v))), ((q 16), aI K 314 (M_aside (M_ex v))), ((q 17), aI K 314 (M_further (M_ex v))), ((q 18), aI K 314 (M_image (M_im v))), ((q 19), aI K 3 (M_sizeNow (M_rn v))), ((q 20), aI K 8 (M_aloneRegister (M_al v))), ((q 21), aI K 4 (M_aloneReal (M_al v))), ((q 22), aI K 32 (M_aloneMemory (M_al v))), ((q 23), aI K 999 (M_aloneOutput (M_al v)))]) cx cf_X10 0 0 rfl (by decide) (Nat.le_of_ble_eq_true rfl) rfl pfd_I wd_1316 dX10_real_2 rfl ?_
  refine r_iload_n (pc := 5) cx dX10_real_5 1 rfl ?_
  refine r_iconst (pc := 6) cx dX10_real_6 ic_2 ?_
  obtain ⟨r1, hc2, hf⟩ := bd_of hf
  refine r_Si (pc := 7) (ws' := [((q 0), ob 9 [.int (0 : Int32), .ref (q 1), .int (M_taped (M_tp v)), .ref (q 2), .ref (q 3), .ref (q 4), .ref (q 5), .ref (q 6), .ref (q 7), .ref (q 8), .ref (q 9), .ref (q 10), .ref (q 11), .ref (q 12), .ref (q 13), .ref (q 14), .int (M_lines (M_rd v)), .int (M_size (M_rd v)), .int (M_at (M_rd v)), .int (M_place (M_rd v)), .int (M_sort (M_rd v)), .int (M_value (M_rd v)), .int (M_fault (M_rd v)), .int (M_faultPlace (M_rd v)), .int (M_lastFault (M_lf v)), .int (M_lastPlace (M_lf v)), .ref (q 15), .ref (q 16), .ref (q 17), .ref (q 18), .int (M_hasImage (M_im v)), .int (M_spanNow (M_rn v)), .ref (q 19), .int (M_placeThen (M_rn v)), .int (M_alonePlace (M_al v)), .int (M_aloneSteps (M_al v)), .int (M_aloneOut (M_al v)), .ref (q 20), .ref (q 21), .ref (q 22), .ref (q 23), .int (M_shotAlarm (M_ex v)), .int (M_drawn (M_ex v))]), ((q 1), aI K 700 (M_tape (M_tp v))), ((q 2), aI K 20 (M_number (M_cd v))), ((q 3), aZ K 5 (M_isTold (M_rd v))), ((q 4), aI K 80 (M_codeSort (M_cd v))), ((q 5), aI K 80 (M_codeA (M_cd v))), ((q 6), aI K 80 (M_codeB (M_cd v))), ((q 7), aI K 80 (M_codeC (M_cd v))), ((q 8), aI K 80 (M_codeName (M_cd v))), ((q 9), aI K 80 (M_codePlace (M_cd v))), ((q 10), aI K 80 (M_codeTo (M_cd v))), ((q 11), aI K 280 (M_labelName (M_cd v))), ((q 12), aI K 280 (M_labelAt (M_cd v))), ((q 13), aI K 64 (M_data (M_cd v))), ((q 14), aZ K 32 (M_hasData (M_rd v))), ((q 15), aI K 314 (M_s (M_rn v))), ((q 16), aI K 314 (M_aside (M_ex v))), ((q 17), aI K 314 (M_further (M_ex v))), ((q 18), aI K 314 (M_image (M_im v))), ((q 19), aI K 3 (M_sizeNow (M_rn v))), ((q 20), aI K 8 (M_aloneRegister (M_al v))), ((q 21), aI K 4 (M_aloneReal (M_al v))), ((q 22), aI K 32 (M_aloneMemory (M_al v))), ((q 23), aI K 999 (M_aloneOutput (M_al v)))]) (nn := 0) cx [.int a1, .int (2 : Int32)] [] (m_M_isIn l D K a1 (2 : Int32) hc2) ys_X10_isIn wd_1737 ⟨rfl, rfl⟩ (by decide) (fr_k (fr_k (fr_k (fr_k (fr_k (fr_k (fr_k (fr_k (fr_k (fr_k (fr_k (fr_k (fr_k (fr_k (fr_k (fr_k (fr_k (fr_k (fr_k (fr_k (fr_k (fr_k (fr_k (fr_k (fr_n))))))))))))))))))))))))) rfl (by decide) rfl (Nat.le_of_ble_eq_true rfl) dX10_real_7 ?_
  refine r_if_eq (pc := 10) (tgt := 37) cx dX10_real_10 (by decide) (fun h3 => ?_) (fun h3 => ?_)
  · have hf := ifp h3 hf
    refine r_iconst (pc := 37) cx dX10_real_37 ic_0 ?_
    cases hf
    exact r_iret (pc := 38) cx rfl rfl dX10_real_38
  · have hf := ifn h3 hf
    refine r_iload_n (pc := 13) cx dX10_real_13 2 rfl ?_
    refine r_iconst (pc := 14) cx dX10_real_14 ic_4 ?_
    obtain ⟨r4, hc5, hf⟩ := bd_of hf
    refine r_Si (pc := 15) (ws' := [((q 0), ob 9 [.int (0 : Int32), .ref (q 1), .int (M_taped (M_tp v)), .ref (q 2), .ref (q 3), .ref (q 4), .ref (q 5), .ref (q 6), .ref (q 7), .ref (q 8), .ref (q 9), .ref (q 10), .ref (q 11), .ref (q 12), .ref (q 13), .ref (q 14), .int (M_lines (M_rd v)), .int (M_size (M_rd v)), .int (M_at (M_rd v)), .int (M_place (M_rd v)), .int (M_sort (M_rd v)), .int (M_value (M_rd v)), .int (M_fault (M_rd v)), .int (M_faultPlace (M_rd v)), .int (M_lastFault (M_lf v)), .int (M_lastPlace (M_lf v)), .ref (q 15), .ref (q 16), .ref (q 17), .ref (q 18), .int (M_hasImage (M_im v)), .int (M_spanNow (M_rn v)), .ref (q 19), .int (M_placeThen (M_rn v)), .int (M_alonePlace (M_al v)), .int (M_aloneSteps (M_al v)), .int (M_aloneOut (M_al v)), .ref (q 20), .ref (q 21), .ref (q 22), .ref (q 23), .int (M_shotAlarm (M_ex v)), .int (M_drawn (M_ex v))]), ((q 1), aI K 700 (M_tape (M_tp v))), ((q 2), aI K 20 (M_number (M_cd v))), ((q 3), aZ K 5 (M_isTold (M_rd v))), ((q 4), aI K 80 (M_codeSort (M_cd v))), ((q 5), aI K 80 (M_codeA (M_cd v))), ((q 6), aI K 80 (M_codeB (M_cd v))), ((q 7), aI K 80 (M_codeC (M_cd v))), ((q 8), aI K 80 (M_codeName (M_cd v))), ((q 9), aI K 80 (M_codePlace (M_cd v))), ((q 10), aI K 80 (M_codeTo (M_cd v))), ((q 11), aI K 280 (M_labelName (M_cd v))), ((q 12), aI K 280 (M_labelAt (M_cd v))), ((q 13), aI K 64 (M_data (M_cd v))), ((q 14), aZ K 32 (M_hasData (M_rd v))), ((q 15), aI K 314 (M_s (M_rn v))), ((q 16), aI K 314 (M_aside (M_ex v))), ((q 17), aI K 314 (M_further (M_ex v))), ((q 18), aI K 314 (M_image (M_im v))), ((q 19), aI K 3 (M_sizeNow (M_rn v))), ((q 20), aI K 8 (M_aloneRegister (M_al v))), ((q 21), aI K 4 (M_aloneReal (M_al v))), ((q 22), aI K 32 (M_aloneMemory (M_al v))), ((q 23), aI K 999 (M_aloneOutput (M_al v)))]) (nn := 0) cx [.int a2, .int (4 : Int32)] [] (m_M_isIn l D K a2 (4 : Int32) hc5) ys_X10_isIn wd_1737 ⟨rfl, rfl⟩ (by decide) (fr_k (fr_k (fr_k (fr_k (fr_k (fr_k (fr_k (fr_k (fr_k (fr_k (fr_k (fr_k (fr_k (fr_k (fr_k (fr_k (fr_k (fr_k (fr_k (fr_k (fr_k (fr_k (fr_k (fr_k (fr_n))))))))))))))))))))))))) rfl (by decide) rfl (Nat.le_of_ble_eq_true rfl) dX10_real_15 ?_
    refine r_if_eq (pc := 18) (tgt := 37) cx dX10_real_18 (by decide) (fun h6 => ?_) (fun h6 => ?_)
    · have hf := ifp h6 hf
      refine r_iconst (pc := 37) cx dX10_real_37 ic_0 ?_
      cases hf
      exact r_iret (pc := 38) cx rfl rfl dX10_real_38
    · have hf := ifn h6 hf
      refine r_aload_n (pc := 21) cx dX10_real_21 0 rfl ?_
      refine r_get (pc := 22) cx cf_X10 0 26 rfl (by decide) rfl wd_1342 dX10_real_22 ?_
      refine r_bipush (pc := 25) cx dX10_real_25 bp_20 ?_
      refine r_iconst (pc := 27) cx dX10_real_27 ic_4 ?_
      refine r_iload_n (pc := 28) cx dX10_real_28 1 rfl ?_
      refine r_imul (pc := 29) cx dX10_real_29 ?_
      refine r_iadd (pc := 30) cx dX10_real_30 ?_
      refine r_iload_n (pc := 31) cx dX10_real_31 2 rfl ?_
      refine r_iadd (pc := 32) cx dX10_real_32 ?_
      obtain ⟨h7, hf⟩ := chk_of hf
      refine r_iald (pc := 33) cx 15 rfl h7 dX10_real_33 ?_
      refine r_goto (pc := 34) (tgt := 38) cx dX10_real_34 (by decide) ?_
      cases hf
      exact r_iret (pc := 38) cx rfl rfl dX10_real_38
theorem yv_X10_real : YV yX10_real cX10_real 3 (some .int) 2 := ⟨⟨by decide +kernel, by decide +kernel, by decide +kernel⟩, wd_1743, wd_102, wd_1741, wd_1742⟩
def f_M_memory (v : T_M) (a1 : Int32) : Option (Int32 × T_M) :=
  (bd (f_M_isIn a1 (32 : Int32)) fun (r1 : Int32) => (if r1 = (0 : Int32) then (some ((0 : Int32), ((M_tp v), (M_rd v), (M_lf v), (M_cd v), (M_rn v), (M_ex v), (M_im v), (M_al v), (0 : Int32)))) else (if ix ((146 : Int32) + a1) 314 then (some (((M_s (M_rn v)) (((146 : Int32) + a1)).toNatClampNeg), ((M_tp v), (M_rd v), (M_lf v), (M_cd v), (M_rn v), (M_ex v), (M_im v), (M_al v), (0 : Int32)))) else none)))
abbrev rm_M_memory : Room := { frames := 1, cells := 0, slots := 0, locals := 21 }
set_option maxRecDepth 100000 in
set_option maxHeartbeats 4000000 in
theorem m_M_memory (l : Launch) (D : va_G) (K : Nat → ClassId) (q : Nat → Nat) (v : T_M) (a1 : Int32) {r_ : Int32} {o_v : T_M} (hf : f_M_memory v a1 = some (r_, o_v)) : MI l yX10_memory cX10_memory 2 (some .int) rm_M_memory D K [.ref (q 0), .int a1] (cl_M K q v) r_ (cl_M K q o_v) := by
  refine MI_of (loc0 := [(0, .ref (q 0)), (1, .int a1)]) (by decide +kernel) rfl (Nat.le_of_ble_eq_true rfl) ?_
  intro p e s m args below meth c A cx
  unfold f_M_memory at hf
  refine r_ws (ws' := [((q 0), ob 9 [.int (M_thrown v), .ref (q 1), .int (M_taped (M_tp v)), .ref (q 2), .ref (q 3), .ref (q 4), .ref (q 5), .ref (q 6), .ref (q 7), .ref (q 8), .ref (q 9), .ref (q 10), .ref (q 11), .ref (q 12), .ref (q 13), .ref (q 14), .int (M_lines (M_rd v)), .int (M_size (M_rd v)), .int (M_at (M_rd v)), .int (M_place (M_rd v)), .int (M_sort (M_rd v)), .int (M_value (M_rd v)), .int (M_fault (M_rd v)), .int (M_faultPlace (M_rd v)), .int (M_lastFault (M_lf v)), .int (M_lastPlace (M_lf v)), .ref (q 15), .ref (q 16), .ref (q 17), .ref (q 18), .int (M_hasImage (M_im v)), .int (M_spanNow (M_rn v)), .ref (q 19), .int (M_placeThen (M_rn v)), .int (M_alonePlace (M_al v)), .int (M_aloneSteps (M_al v)), .int (M_aloneOut (M_al v)), .ref (q 20), .ref (q 21), .ref (q 22), .ref (q 23), .int (M_shotAlarm (M_ex v)), .int (M_drawn (M_ex v))]), ((q 1), aI K 700 (M_tape (M_tp v))), ((q 2), aI K 20 (M_number (M_cd v))), ((q 3), aZ K 5 (M_isTold (M_rd v))), ((q 4), aI K 80 (M_codeSort (M_cd v))), ((q 5), aI K 80 (M_codeA (M_cd v))), ((q 6), aI K 80 (M_codeB (M_cd v))), ((q 7), aI K 80 (M_codeC (M_cd v))), ((q 8), aI K 80 (M_codeName (M_cd v))), ((q 9), aI K 80 (M_codePlace (M_cd v))), ((q 10), aI K 80 (M_codeTo (M_cd v))), ((q 11), aI K 280 (M_labelName (M_cd v))), ((q 12), aI K 280 (M_labelAt (M_cd v))), ((q 13), aI K 64 (M_data (M_cd v))), ((q 14), aZ K 32 (M_hasData (M_rd v))), ((q 15), aI K 314 (M_s (M_rn v))), ((q 16), aI K 314 (M_aside (M_ex v))), ((q 17), aI K 314 (M_further (M_ex v))), ((q 18), aI K 314 (M_image (M_im v))), ((q 19), aI K 3 (M_sizeNow (M_rn v))), ((q 20), aI K 8 (M_aloneRegister (M_al v))), ((q 21), aI K 4 (M_aloneReal (M_al v))), ((q 22), aI K 32 (M_aloneMemory (M_al v))), ((q 23), aI K 999 (M_aloneOutput (M_al v)))]) rfl ?_
  refine r_aload_n (pc := 0) cx dX10_memory_0 0 rfl ?_
  refine r_iconst (pc := 1) cx dX10_memory_1 ic_0 ?_
  refine r_putI (pc := 2) (ws' := [((q 0), ob 9 [.int (0 : Int32), .ref (q 1), .int (M_taped (M_tp v)), .ref (q 2), .ref (q 3), .ref (q 4), .ref (q 5), .ref (q 6), .ref (q 7), .ref (q 8), .ref (q 9), .ref (q 10), .ref (q 11), .ref (q 12), .ref (q 13), .ref (q 14), .int (M_lines (M_rd v)), .int (M_size (M_rd v)), .int (M_at (M_rd v)), .int (M_place (M_rd v)), .int (M_sort (M_rd v)), .int (M_value (M_rd v)), .int (M_fault (M_rd v)), .int (M_faultPlace (M_rd v)), .int (M_lastFault (M_lf v)), .int (M_lastPlace (M_lf v)), .ref (q 15), .ref (q 16), .ref (q 17), .ref (q 18), .int (M_hasImage (M_im v)), .int (M_spanNow (M_rn v)), .ref (q 19), .int (M_placeThen (M_rn v)), .int (M_alonePlace (M_al v)), .int (M_aloneSteps (M_al v)), .int (M_aloneOut (M_al v)), .ref (q 20), .ref (q 21), .ref (q 22), .ref (q 23), .int (M_shotAlarm (M_ex v)), .int (M_drawn (M_ex v))]), ((q 1), aI K 700 (M_tape (M_tp v))), ((q 2), aI K 20 (M_number (M_cd v))), ((q 3), aZ K 5 (M_isTold (M_rd v))), ((q 4), aI K 80 (M_codeSort (M_cd v))), ((q 5), aI K 80 (M_codeA (M_cd v))), ((q 6), aI K 80 (M_codeB (M_cd v))), ((q 7), aI K 80 (M_codeC (M_cd v))), ((q 8), aI K 80 (M_codeName (M_cd v))), ((q 9), aI K 80 (M_codePlace (M_cd v))), ((q 10), aI K 80 (M_codeTo (M_cd v))), ((q 11), aI K 280 (M_labelName (M_cd v))), ((q 12), aI K 280 (M_labelAt (M_cd v))), ((q 13), aI K 64 (M_data (M_cd v))), ((q 14), aZ K 32 (M_hasData (M_rd v))), ((q 15), aI K 314 (M_s (M_rn v))), ((q 16), aI K 314 (M_aside (M_ex v))), ((q 17), aI K 314 (M_further (M_ex v))), ((q 18), aI K 314 (M_image (M_im v))), ((q 19), aI K 3 (M_sizeNow (M_rn v))), ((q 20), aI K 8 (M_aloneRegister (M_al v))), ((q 21), aI K 4 (M_aloneReal (M_al v))), ((q 22), aI K 32 (M_aloneMemory (M_al v))), ((q 23), aI K 999 (M_aloneOutput (M_al v)))]) cx cf_X10 0 0 rfl (by decide) (Nat.le_of_ble_eq_true rfl) rfl pfd_I wd_1316 dX10_memory_2 rfl ?_
  refine r_iload_n (pc := 5) cx dX10_memory_5 1 rfl ?_
  refine r_bipush (pc := 6) cx dX10_memory_6 bp_32 ?_
  obtain ⟨r1, hc2, hf⟩ := bd_of hf
  refine r_Si (pc := 8) (ws' := [((q 0), ob 9 [.int (0 : Int32), .ref (q 1), .int (M_taped (M_tp v)), .ref (q 2), .ref (q 3), .ref (q 4), .ref (q 5), .ref (q 6), .ref (q 7), .ref (q 8), .ref (q 9), .ref (q 10), .ref (q 11), .ref (q 12), .ref (q 13), .ref (q 14), .int (M_lines (M_rd v)), .int (M_size (M_rd v)), .int (M_at (M_rd v)), .int (M_place (M_rd v)), .int (M_sort (M_rd v)), .int (M_value (M_rd v)), .int (M_fault (M_rd v)), .int (M_faultPlace (M_rd v)), .int (M_lastFault (M_lf v)), .int (M_lastPlace (M_lf v)), .ref (q 15), .ref (q 16), .ref (q 17), .ref (q 18), .int (M_hasImage (M_im v)), .int (M_spanNow (M_rn v)), .ref (q 19), .int (M_placeThen (M_rn v)), .int (M_alonePlace (M_al v)), .int (M_aloneSteps (M_al v)), .int (M_aloneOut (M_al v)), .ref (q 20), .ref (q 21), .ref (q 22), .ref (q 23), .int (M_shotAlarm (M_ex v)), .int (M_drawn (M_ex v))]), ((q 1), aI K 700 (M_tape (M_tp v))), ((q 2), aI K 20 (M_number (M_cd v))), ((q 3), aZ K 5 (M_isTold (M_rd v))), ((q 4), aI K 80 (M_codeSort (M_cd v))), ((q 5), aI K 80 (M_codeA (M_cd v))), ((q 6), aI K 80 (M_codeB (M_cd v))), ((q 7), aI K 80 (M_codeC (M_cd v))), ((q 8), aI K 80 (M_codeName (M_cd v))), ((q 9), aI K 80 (M_codePlace (M_cd v))), ((q 10), aI K 80 (M_codeTo (M_cd v))), ((q 11), aI K 280 (M_labelName (M_cd v))), ((q 12), aI K 280 (M_labelAt (M_cd v))), ((q 13), aI K 64 (M_data (M_cd v))), ((q 14), aZ K 32 (M_hasData (M_rd v))), ((q 15), aI K 314 (M_s (M_rn v))), ((q 16), aI K 314 (M_aside (M_ex v))), ((q 17), aI K 314 (M_further (M_ex v))), ((q 18), aI K 314 (M_image (M_im v))), ((q 19), aI K 3 (M_sizeNow (M_rn v))), ((q 20), aI K 8 (M_aloneRegister (M_al v))), ((q 21), aI K 4 (M_aloneReal (M_al v))), ((q 22), aI K 32 (M_aloneMemory (M_al v))), ((q 23), aI K 999 (M_aloneOutput (M_al v)))]) (nn := 0) cx [.int a1, .int (32 : Int32)] [] (m_M_isIn l D K a1 (32 : Int32) hc2) ys_X10_isIn wd_1737 ⟨rfl, rfl⟩ (by decide) (fr_k (fr_k (fr_k (fr_k (fr_k (fr_k (fr_k (fr_k (fr_k (fr_k (fr_k (fr_k (fr_k (fr_k (fr_k (fr_k (fr_k (fr_k (fr_k (fr_k (fr_k (fr_k (fr_k (fr_k (fr_n))))))))))))))))))))))))) rfl (by decide) rfl (Nat.le_of_ble_eq_true rfl) dX10_memory_8 ?_
  refine r_if_eq (pc := 11) (tgt := 27) cx dX10_memory_11 (by decide) (fun h3 => ?_) (fun h3 => ?_)
  · have hf := ifp h3 hf
    refine r_iconst (pc := 27) cx dX10_memory_27 ic_0 ?_
    cases hf
    exact r_iret (pc := 28) cx rfl rfl dX10_memory_28
  · have hf := ifn h3 hf
    refine r_aload_n (pc := 14) cx dX10_memory_14 0 rfl ?_
    refine r_get (pc := 15) cx cf_X10 0 26 rfl (by decide) rfl wd_1342 dX10_memory_15 ?_
    refine r_sipush (pc := 18) cx dX10_memory_18 sp_146 ?_
    refine r_iload_n (pc := 21) cx dX10_memory_21 1 rfl ?_
    refine r_iadd (pc := 22) cx dX10_memory_22 ?_
    obtain ⟨h4, hf⟩ := chk_of hf
    refine r_iald (pc := 23) cx 15 rfl h4 dX10_memory_23 ?_
    refine r_goto (pc := 24) (tgt := 28) cx dX10_memory_24 (by decide) ?_
    cases hf
    exact r_iret (pc := 28) cx rfl rfl dX10_memory_28
theorem yv_X10_memory : YV yX10_memory cX10_memory 2 (some .int) 1 := ⟨⟨by decide +kernel, by decide +kernel, by decide +kernel⟩, wd_1747, wd_102, wd_1745, wd_1746⟩
def f_M_output (v : T_M) (a1 : Int32) : Option (Int32 × T_M) :=
  (bd (f_M_isIn a1 ((M_s (M_rn v)) (178 : Int32).toNatClampNeg)) fun (r1 : Int32) => (if r1 = (0 : Int32) then (some ((0 : Int32), ((M_tp v), (M_rd v), (M_lf v), (M_cd v), (M_rn v), (M_ex v), (M_im v), (M_al v), (0 : Int32)))) else (if ix ((179 : Int32) + a1) 314 then (some (((M_s (M_rn v)) (((179 : Int32) + a1)).toNatClampNeg), ((M_tp v), (M_rd v), (M_lf v), (M_cd v), (M_rn v), (M_ex v), (M_im v), (M_al v), (0 : Int32)))) else none)))
abbrev rm_M_output : Room := { frames := 1, cells := 0, slots := 0, locals := 21 }
set_option maxRecDepth 100000 in
set_option maxHeartbeats 4000000 in
theorem m_M_output (l : Launch) (D : va_G) (K : Nat → ClassId) (q : Nat → Nat) (v : T_M) (a1 : Int32) {r_ : Int32} {o_v : T_M} (hf : f_M_output v a1 = some (r_, o_v)) : MI l yX10_output cX10_output 2 (some .int) rm_M_output D K [.ref (q 0), .int a1] (cl_M K q v) r_ (cl_M K q o_v) := by
  refine MI_of (loc0 := [(0, .ref (q 0)), (1, .int a1)]) (by decide +kernel) rfl (Nat.le_of_ble_eq_true rfl) ?_
  intro p e s m args below meth c A cx
  unfold f_M_output at hf
  refine r_ws (ws' := [((q 0), ob 9 [.int (M_thrown v), .ref (q 1), .int (M_taped (M_tp v)), .ref (q 2), .ref (q 3), .ref (q 4), .ref (q 5), .ref (q 6), .ref (q 7), .ref (q 8), .ref (q 9), .ref (q 10), .ref (q 11), .ref (q 12), .ref (q 13), .ref (q 14), .int (M_lines (M_rd v)), .int (M_size (M_rd v)), .int (M_at (M_rd v)), .int (M_place (M_rd v)), .int (M_sort (M_rd v)), .int (M_value (M_rd v)), .int (M_fault (M_rd v)), .int (M_faultPlace (M_rd v)), .int (M_lastFault (M_lf v)), .int (M_lastPlace (M_lf v)), .ref (q 15), .ref (q 16), .ref (q 17), .ref (q 18), .int (M_hasImage (M_im v)), .int (M_spanNow (M_rn v)), .ref (q 19), .int (M_placeThen (M_rn v)), .int (M_alonePlace (M_al v)), .int (M_aloneSteps (M_al v)), .int (M_aloneOut (M_al v)), .ref (q 20), .ref (q 21), .ref (q 22), .ref (q 23), .int (M_shotAlarm (M_ex v)), .int (M_drawn (M_ex v))]), ((q 1), aI K 700 (M_tape (M_tp v))), ((q 2), aI K 20 (M_number (M_cd v))), ((q 3), aZ K 5 (M_isTold (M_rd v))), ((q 4), aI K 80 (M_codeSort (M_cd v))), ((q 5), aI K 80 (M_codeA (M_cd v))), ((q 6), aI K 80 (M_codeB (M_cd v))), ((q 7), aI K 80 (M_codeC (M_cd v))), ((q 8), aI K 80 (M_codeName (M_cd v))), ((q 9), aI K 80 (M_codePlace (M_cd v))), ((q 10), aI K 80 (M_codeTo (M_cd v))), ((q 11), aI K 280 (M_labelName (M_cd v))), ((q 12), aI K 280 (M_labelAt (M_cd v))), ((q 13), aI K 64 (M_data (M_cd v))), ((q 14), aZ K 32 (M_hasData (M_rd v))), ((q 15), aI K 314 (M_s (M_rn v))), ((q 16), aI K 314 (M_aside (M_ex v))), ((q 17), aI K 314 (M_further (M_ex v))), ((q 18), aI K 314 (M_image (M_im v))), ((q 19), aI K 3 (M_sizeNow (M_rn v))), ((q 20), aI K 8 (M_aloneRegister (M_al v))), ((q 21), aI K 4 (M_aloneReal (M_al v))), ((q 22), aI K 32 (M_aloneMemory (M_al v))), ((q 23), aI K 999 (M_aloneOutput (M_al v)))]) rfl ?_
  refine r_aload_n (pc := 0) cx dX10_output_0 0 rfl ?_
  refine r_iconst (pc := 1) cx dX10_output_1 ic_0 ?_
  refine r_putI (pc := 2) (ws' := [((q 0), ob 9 [.int (0 : Int32), .ref (q 1), .int (M_taped (M_tp v)), .ref (q 2), .ref (q 3), .ref (q 4), .ref (q 5), .ref (q 6), .ref (q 7), .ref (q 8), .ref (q 9), .ref (q 10), .ref (q 11), .ref (q 12), .ref (q 13), .ref (q 14), .int (M_lines (M_rd v)), .int (M_size (M_rd v)), .int (M_at (M_rd v)), .int (M_place (M_rd v)), .int (M_sort (M_rd v)), .int (M_value (M_rd v)), .int (M_fault (M_rd v)), .int (M_faultPlace (M_rd v)), .int (M_lastFault (M_lf v)), .int (M_lastPlace (M_lf v)), .ref (q 15), .ref (q 16), .ref (q 17), .ref (q 18), .int (M_hasImage (M_im v)), .int (M_spanNow (M_rn v)), .ref (q 19), .int (M_placeThen (M_rn v)), .int (M_alonePlace (M_al v)), .int (M_aloneSteps (M_al v)), .int (M_aloneOut (M_al v)), .ref (q 20), .ref (q 21), .ref (q 22), .ref (q 23), .int (M_shotAlarm (M_ex v)), .int (M_drawn (M_ex v))]), ((q 1), aI K 700 (M_tape (M_tp v))), ((q 2), aI K 20 (M_number (M_cd v))), ((q 3), aZ K 5 (M_isTold (M_rd v))), ((q 4), aI K 80 (M_codeSort (M_cd v))), ((q 5), aI K 80 (M_codeA (M_cd v))), ((q 6), aI K 80 (M_codeB (M_cd v))), ((q 7), aI K 80 (M_codeC (M_cd v))), ((q 8), aI K 80 (M_codeName (M_cd v))), ((q 9), aI K 80 (M_codePlace (M_cd v))), ((q 10), aI K 80 (M_codeTo (M_cd v))), ((q 11), aI K 280 (M_labelName (M_cd v))), ((q 12), aI K 280 (M_labelAt (M_cd v))), ((q 13), aI K 64 (M_data (M_cd v))), ((q 14), aZ K 32 (M_hasData (M_rd v))), ((q 15), aI K 314 (M_s (M_rn v))), ((q 16), aI K 314 (M_aside (M_ex v))), ((q 17), aI K 314 (M_further (M_ex v))), ((q 18), aI K 314 (M_image (M_im v))), ((q 19), aI K 3 (M_sizeNow (M_rn v))), ((q 20), aI K 8 (M_aloneRegister (M_al v))), ((q 21), aI K 4 (M_aloneReal (M_al v))), ((q 22), aI K 32 (M_aloneMemory (M_al v))), ((q 23), aI K 999 (M_aloneOutput (M_al v)))]) cx cf_X10 0 0 rfl (by decide) (Nat.le_of_ble_eq_true rfl) rfl pfd_I wd_1316 dX10_output_2 rfl ?_
  refine r_iload_n (pc := 5) cx dX10_output_5 1 rfl ?_
  refine r_aload_n (pc := 6) cx dX10_output_6 0 rfl ?_
  refine r_get (pc := 7) cx cf_X10 0 26 rfl (by decide) rfl wd_1342 dX10_output_7 ?_
  refine r_sipush (pc := 10) cx dX10_output_10 sp_178 ?_
  refine r_iald (pc := 13) cx 15 rfl (by decide) dX10_output_13 ?_
  obtain ⟨r1, hc2, hf⟩ := bd_of hf
  refine r_Si (pc := 14) (ws' := [((q 0), ob 9 [.int (0 : Int32), .ref (q 1), .int (M_taped (M_tp v)), .ref (q 2), .ref (q 3), .ref (q 4), .ref (q 5), .ref (q 6), .ref (q 7), .ref (q 8), .ref (q 9), .ref (q 10), .ref (q 11), .ref (q 12), .ref (q 13), .ref (q 14), .int (M_lines (M_rd v)), .int (M_size (M_rd v)), .int (M_at (M_rd v)), .int (M_place (M_rd v)), .int (M_sort (M_rd v)), .int (M_value (M_rd v)), .int (M_fault (M_rd v)), .int (M_faultPlace (M_rd v)), .int (M_lastFault (M_lf v)), .int (M_lastPlace (M_lf v)), .ref (q 15), .ref (q 16), .ref (q 17), .ref (q 18), .int (M_hasImage (M_im v)), .int (M_spanNow (M_rn v)), .ref (q 19), .int (M_placeThen (M_rn v)), .int (M_alonePlace (M_al v)), .int (M_aloneSteps (M_al v)), .int (M_aloneOut (M_al v)), .ref (q 20), .ref (q 21), .ref (q 22), .ref (q 23), .int (M_shotAlarm (M_ex v)), .int (M_drawn (M_ex v))]), ((q 1), aI K 700 (M_tape (M_tp v))), ((q 2), aI K 20 (M_number (M_cd v))), ((q 3), aZ K 5 (M_isTold (M_rd v))), ((q 4), aI K 80 (M_codeSort (M_cd v))), ((q 5), aI K 80 (M_codeA (M_cd v))), ((q 6), aI K 80 (M_codeB (M_cd v))), ((q 7), aI K 80 (M_codeC (M_cd v))), ((q 8), aI K 80 (M_codeName (M_cd v))), ((q 9), aI K 80 (M_codePlace (M_cd v))), ((q 10), aI K 80 (M_codeTo (M_cd v))), ((q 11), aI K 280 (M_labelName (M_cd v))), ((q 12), aI K 280 (M_labelAt (M_cd v))), ((q 13), aI K 64 (M_data (M_cd v))), ((q 14), aZ K 32 (M_hasData (M_rd v))), ((q 15), aI K 314 (M_s (M_rn v))), ((q 16), aI K 314 (M_aside (M_ex v))), ((q 17), aI K 314 (M_further (M_ex v))), ((q 18), aI K 314 (M_image (M_im v))), ((q 19), aI K 3 (M_sizeNow (M_rn v))), ((q 20), aI K 8 (M_aloneRegister (M_al v))), ((q 21), aI K 4 (M_aloneReal (M_al v))), ((q 22), aI K 32 (M_aloneMemory (M_al v))), ((q 23), aI K 999 (M_aloneOutput (M_al v)))]) (nn := 0) cx [.int a1, .int ((M_s (M_rn v)) (178 : Int32).toNatClampNeg)] [] (m_M_isIn l D K a1 ((M_s (M_rn v)) (178 : Int32).toNatClampNeg) hc2) ys_X10_isIn wd_1737 ⟨rfl, rfl⟩ (by decide) (fr_k (fr_k (fr_k (fr_k (fr_k (fr_k (fr_k (fr_k (fr_k (fr_k (fr_k (fr_k (fr_k (fr_k (fr_k (fr_k (fr_k (fr_k (fr_k (fr_k (fr_k (fr_k (fr_k (fr_k (fr_n))))))))))))))))))))))))) rfl (by decide) rfl (Nat.le_of_ble_eq_true rfl) dX10_output_14 ?_
  refine r_if_eq (pc := 17) (tgt := 33) cx dX10_output_17 (by decide) (fun h3 => ?_) (fun h3 => ?_)
  · have hf := ifp h3 hf
    refine r_iconst (pc := 33) cx dX10_output_33 ic_0 ?_
    cases hf
    exact r_iret (pc := 34) cx rfl rfl dX10_output_34
  · have hf := ifn h3 hf
    refine r_aload_n (pc := 20) cx dX10_output_20 0 rfl ?_
    refine r_get (pc := 21) cx cf_X10 0 26 rfl (by decide) rfl wd_1342 dX10_output_21 ?_
    refine r_sipush (pc := 24) cx dX10_output_24 sp_179 ?_
    refine r_iload_n (pc := 27) cx dX10_output_27 1 rfl ?_
    refine r_iadd (pc := 28) cx dX10_output_28 ?_
    obtain ⟨h4, hf⟩ := chk_of hf
    refine r_iald (pc := 29) cx 15 rfl h4 dX10_output_29 ?_
    refine r_goto (pc := 30) (tgt := 34) cx dX10_output_30 (by decide) ?_
    cases hf
    exact r_iret (pc := 34) cx rfl rfl dX10_output_34
theorem yv_X10_output : YV yX10_output cX10_output 2 (some .int) 1 := ⟨⟨by decide +kernel, by decide +kernel, by decide +kernel⟩, wd_1751, wd_102, wd_1749, wd_1750⟩
def f_M_heldAt (v : T_M) (a1 : Int32) (a2 : Int32) : Option (Int32) :=
  (if a2 = (0 : Int32) then (if ix ((114 : Int32) + a1) 314 then (some ((M_s (M_rn v)) (((114 : Int32) + a1)).toNatClampNeg)) else none) else (if a2 = (1 : Int32) then (if ix ((122 : Int32) + a1) 314 then (some ((M_s (M_rn v)) (((122 : Int32) + a1)).toNatClampNeg)) else none) else (nm (fun (y3 : Int32) => ((if y3 = (0 : Int32) then (some (0 : Int32)) else (if a2 = (2 : Int32) then (some (1 : Int32)) else (if a2 = (3 : Int32) then (if ix ((130 : Int32) + a1) 314 then (some ((M_s (M_rn v)) (((130 : Int32) + a1)).toNatClampNeg)) else none) else (if ix ((138 : Int32) + a1) 314 then (some ((M_s (M_rn v)) (((138 : Int32) + a1)).toNatClampNeg)) else none)))) : Option (Int32))) fun J4 => (if ((M_s (M_rn v)) (113 : Int32).toNatClampNeg) ≤ a1 then (J4 (0 : Int32)) else (J4 (1 : Int32))))))
abbrev rm_M_heldAt : Room := { frames := 0, cells := 0, slots := 0, locals := 0 }
set_option maxRecDepth 100000 in
set_option maxHeartbeats 4000000 in
theorem m_M_heldAt (l : Launch) (D : va_G) (K : Nat → ClassId) (q : Nat → Nat) (v : T_M) (a1 : Int32) (a2 : Int32) {r_ : Int32} (hf : f_M_heldAt v a1 a2 = some r_) : MI l yX10_heldAt cX10_heldAt 4 (some .int) rm_M_heldAt D K [.ref (q 0), .int a1, .int a2] (cl_M K q v) r_ (cl_M K q v) := by
  refine MI_of (loc0 := [(0, .ref (q 0)), (1, .int a1), (2, .int a2)]) (by decide +kernel) rfl (Nat.le_of_ble_eq_true rfl) ?_
  intro p e s m args below meth c A cx
  unfold f_M_heldAt at hf
  refine r_ws (ws' := [((q 0), ob 9 [.int (M_thrown v), .ref (q 1), .int (M_taped (M_tp v)), .ref (q 2), .ref (q 3), .ref (q 4), .ref (q 5), .ref (q 6), .ref (q 7), .ref (q 8), .ref (q 9), .ref (q 10), .ref (q 11), .ref (q 12), .ref (q 13), .ref (q 14), .int (M_lines (M_rd v)), .int (M_size (M_rd v)), .int (M_at (M_rd v)), .int (M_place (M_rd v)), .int (M_sort (M_rd v)), .int (M_value (M_rd v)), .int (M_fault (M_rd v)), .int (M_faultPlace (M_rd v)), .int (M_lastFault (M_lf v)), .int (M_lastPlace (M_lf v)), .ref (q 15), .ref (q 16), .ref (q 17), .ref (q 18), .int (M_hasImage (M_im v)), .int (M_spanNow (M_rn v)), .ref (q 19), .int (M_placeThen (M_rn v)), .int (M_alonePlace (M_al v)), .int (M_aloneSteps (M_al v)), .int (M_aloneOut (M_al v)), .ref (q 20), .ref (q 21), .ref (q 22), .ref (q 23), .int (M_shotAlarm (M_ex v)), .int (M_drawn (M_ex v))]), ((q 1), aI K 700 (M_tape (M_tp v))), ((q 2), aI K 20 (M_number (M_cd v))), ((q 3), aZ K 5 (M_isTold (M_rd v))), ((q 4), aI K 80 (M_codeSort (M_cd v))), ((q 5), aI K 80 (M_codeA (M_cd v))), ((q 6), aI K 80 (M_codeB (M_cd v))), ((q 7), aI K 80 (M_codeC (M_cd v))), ((q 8), aI K 80 (M_codeName (M_cd v))), ((q 9), aI K 80 (M_codePlace (M_cd v))), ((q 10), aI K 80 (M_codeTo (M_cd v))), ((q 11), aI K 280 (M_labelName (M_cd v))), ((q 12), aI K 280 (M_labelAt (M_cd v))), ((q 13), aI K 64 (M_data (M_cd v))), ((q 14), aZ K 32 (M_hasData (M_rd v))), ((q 15), aI K 314 (M_s (M_rn v))), ((q 16), aI K 314 (M_aside (M_ex v))), ((q 17), aI K 314 (M_further (M_ex v))), ((q 18), aI K 314 (M_image (M_im v))), ((q 19), aI K 3 (M_sizeNow (M_rn v))), ((q 20), aI K 8 (M_aloneRegister (M_al v))), ((q 21), aI K 4 (M_aloneReal (M_al v))), ((q 22), aI K 32 (M_aloneMemory (M_al v))), ((q 23), aI K 999 (M_aloneOutput (M_al v)))]) rfl ?_
  refine r_iload_n (pc := 0) cx dX10_heldAt_0 2 rfl ?_
  refine r_if_ne (pc := 1) (tgt := 14) cx dX10_heldAt_1 (by decide) (fun h1 => ?_) (fun h1 => ?_)
  · have hf := ifn h1 hf
    refine r_iload_n (pc := 14) cx dX10_heldAt_14 2 rfl ?_
    refine r_iconst (pc := 15) cx dX10_heldAt_15 ic_1 ?_
    refine r_icmp_ne (pc := 16) (tgt := 29) cx dX10_heldAt_16 (by decide) (fun h2 => ?_) (fun h2 => ?_)
    · have hf := ifn h2 hf
      refine r_iload_n (pc := 29) cx dX10_heldAt_29 1 rfl ?_
      refine r_aload_n (pc := 30) cx dX10_heldAt_30 0 rfl ?_
      refine r_get (pc := 31) cx cf_X10 0 26 rfl (by decide) rfl wd_1342 dX10_heldAt_31 ?_
      refine r_bipush (pc := 34) cx dX10_heldAt_34 bp_113 ?_
      refine r_iald (pc := 36) cx 15 rfl (by decide) dX10_heldAt_36 ?_
      obtain ⟨J4, eJ4, hf⟩ := nm_of hf
      have hJ4 : ∀ (y3 : Int32), J4 y3 = some r_ → WW p l e rm_M_heldAt s m args below meth c D A 4 0 0 (MQ below (QI D K A r_ (cl_M K q v)) args s 0 0 A) ([((q 0), ob 9 [.int (M_thrown v), .ref (q 1), .int (M_taped (M_tp v)), .ref (q 2), .ref (q 3), .ref (q 4), .ref (q 5), .ref (q 6), .ref (q 7), .ref (q 8), .ref (q 9), .ref (q 10), .ref (q 11), .ref (q 12), .ref (q 13), .ref (q 14), .int (M_lines (M_rd v)), .int (M_size (M_rd v)), .int (M_at (M_rd v)), .int (M_place (M_rd v)), .int (M_sort (M_rd v)), .int (M_value (M_rd v)), .int (M_fault (M_rd v)), .int (M_faultPlace (M_rd v)), .int (M_lastFault (M_lf v)), .int (M_lastPlace (M_lf v)), .ref (q 15), .ref (q 16), .ref (q 17), .ref (q 18), .int (M_hasImage (M_im v)), .int (M_spanNow (M_rn v)), .ref (q 19), .int (M_placeThen (M_rn v)), .int (M_alonePlace (M_al v)), .int (M_aloneSteps (M_al v)), .int (M_aloneOut (M_al v)), .ref (q 20), .ref (q 21), .ref (q 22), .ref (q 23), .int (M_shotAlarm (M_ex v)), .int (M_drawn (M_ex v))]), ((q 1), aI K 700 (M_tape (M_tp v))), ((q 2), aI K 20 (M_number (M_cd v))), ((q 3), aZ K 5 (M_isTold (M_rd v))), ((q 4), aI K 80 (M_codeSort (M_cd v))), ((q 5), aI K 80 (M_codeA (M_cd v))), ((q 6), aI K 80 (M_codeB (M_cd v))), ((q 7), aI K 80 (M_codeC (M_cd v))), ((q 8), aI K 80 (M_codeName (M_cd v))), ((q 9), aI K 80 (M_codePlace (M_cd v))), ((q 10), aI K 80 (M_codeTo (M_cd v))), ((q 11), aI K 280 (M_labelName (M_cd v))), ((q 12), aI K 280 (M_labelAt (M_cd v))), ((q 13), aI K 64 (M_data (M_cd v))), ((q 14), aZ K 32 (M_hasData (M_rd v))), ((q 15), aI K 314 (M_s (M_rn v))), ((q 16), aI K 314 (M_aside (M_ex v))), ((q 17), aI K 314 (M_further (M_ex v))), ((q 18), aI K 314 (M_image (M_im v))), ((q 19), aI K 3 (M_sizeNow (M_rn v))), ((q 20), aI K 8 (M_aloneRegister (M_al v))), ((q 21), aI K 4 (M_aloneReal (M_al v))), ((q 22), aI K 32 (M_aloneMemory (M_al v))), ((q 23), aI K 999 (M_aloneOutput (M_al v)))]) ([(0, .ref (q 0)), (1, .int a1), (2, .int a2)]) ([.int y3]) 45 := by
        intro y3 hf
        rw [eJ4] at hf
        refine r_istore_n (pc := 45) (loc' := [(3, .int y3), (0, .ref (q 0)), (1, .int a1), (2, .int a2)]) cx dX10_heldAt_45 rfl (by decide) rfl ?_
        refine r_iload_n (pc := 46) cx dX10_heldAt_46 0 rfl ?_
        refine r_if_ne (pc := 47) (tgt := 54) cx dX10_heldAt_47 (by decide) (fun h5 => ?_) (fun h5 => ?_)
        · have hf := ifn h5 hf
          refine r_iload_n (pc := 54) cx dX10_heldAt_54 3 rfl ?_
          refine r_iconst (pc := 55) cx dX10_heldAt_55 ic_2 ?_
          refine r_icmp_ne (pc := 56) (tgt := 63) cx dX10_heldAt_56 (by decide) (fun h6 => ?_) (fun h6 => ?_)
          · have hf := ifn h6 hf
            refine r_iload_n (pc := 63) cx dX10_heldAt_63 3 rfl ?_
            refine r_iconst (pc := 64) cx dX10_heldAt_64 ic_3 ?_
            refine r_icmp_ne (pc := 65) (tgt := 81) cx dX10_heldAt_65 (by decide) (fun h7 => ?_) (fun h7 => ?_)
            · have hf := ifn h7 hf
              refine r_aload_n (pc := 81) cx dX10_heldAt_81 1 rfl ?_
              refine r_get (pc := 82) cx cf_X10 0 26 rfl (by decide) rfl wd_1342 dX10_heldAt_82 ?_
              refine r_sipush (pc := 85) cx dX10_heldAt_85 sp_138 ?_
              refine r_iload_n (pc := 88) cx dX10_heldAt_88 2 rfl ?_
              refine r_iadd (pc := 89) cx dX10_heldAt_89 ?_
              obtain ⟨h8, hf⟩ := chk_of hf
              refine r_iald (pc := 90) cx 15 rfl h8 dX10_heldAt_90 ?_
              cases hf
              exact r_iret (pc := 91) cx rfl rfl dX10_heldAt_91
            · have hf := ifp h7 hf
              refine r_aload_n (pc := 68) cx dX10_heldAt_68 1 rfl ?_
              refine r_get (pc := 69) cx cf_X10 0 26 rfl (by decide) rfl wd_1342 dX10_heldAt_69 ?_
              refine r_sipush (pc := 72) cx dX10_heldAt_72 sp_130 ?_
              refine r_iload_n (pc := 75) cx dX10_heldAt_75 2 rfl ?_
              refine r_iadd (pc := 76) cx dX10_heldAt_76 ?_
              obtain ⟨h9, hf⟩ := chk_of hf
              refine r_iald (pc := 77) cx 15 rfl h9 dX10_heldAt_77 ?_
              refine r_goto (pc := 78) (tgt := 91) cx dX10_heldAt_78 (by decide) ?_
              cases hf
              exact r_iret (pc := 91) cx rfl rfl dX10_heldAt_91
          · have hf := ifp h6 hf
            refine r_iconst (pc := 59) cx dX10_heldAt_59 ic_1 ?_
            refine r_goto (pc := 60) (tgt := 91) cx dX10_heldAt_60 (by decide) ?_
            cases hf
            exact r_iret (pc := 91) cx rfl rfl dX10_heldAt_91
        · have hf := ifp h5 hf
          refine r_iconst (pc := 50) cx dX10_heldAt_50 ic_0 ?_
          refine r_goto (pc := 51) (tgt := 91) cx dX10_heldAt_51 (by decide) ?_
          cases hf
          exact r_iret (pc := 91) cx rfl rfl dX10_heldAt_91
      refine r_icmp_ge (pc := 37) (tgt := 44) cx dX10_heldAt_37 (by decide) (fun h10 => ?_) (fun h10 => ?_)
      · have hf := ifp h10 hf
        refine r_iconst (pc := 44) cx dX10_heldAt_44 ic_0 ?_
        exact hJ4 _ hf
      · have hf := ifn h10 hf
        refine r_iconst (pc := 40) cx dX10_heldAt_40 ic_1 ?_
        refine r_goto (pc := 41) (tgt := 45) cx dX10_heldAt_41 (by decide) ?_
        exact hJ4 _ hf
    · have hf := ifp h2 hf
      refine r_aload_n (pc := 19) cx dX10_heldAt_19 0 rfl ?_
      refine r_get (pc := 20) cx cf_X10 0 26 rfl (by decide) rfl wd_1342 dX10_heldAt_20 ?_
      refine r_bipush (pc := 23) cx dX10_heldAt_23 bp_122 ?_
      refine r_iload_n (pc := 25) cx dX10_heldAt_25 1 rfl ?_
      refine r_iadd (pc := 26) cx dX10_heldAt_26 ?_
      obtain ⟨h11, hf⟩ := chk_of hf
      refine r_iald (pc := 27) cx 15 rfl h11 dX10_heldAt_27 ?_
      cases hf
      exact r_iret (pc := 28) cx rfl rfl dX10_heldAt_28
  · have hf := ifp h1 hf
    refine r_aload_n (pc := 4) cx dX10_heldAt_4 0 rfl ?_
    refine r_get (pc := 5) cx cf_X10 0 26 rfl (by decide) rfl wd_1342 dX10_heldAt_5 ?_
    refine r_bipush (pc := 8) cx dX10_heldAt_8 bp_114 ?_
    refine r_iload_n (pc := 10) cx dX10_heldAt_10 1 rfl ?_
    refine r_iadd (pc := 11) cx dX10_heldAt_11 ?_
    obtain ⟨h12, hf⟩ := chk_of hf
    refine r_iald (pc := 12) cx 15 rfl h12 dX10_heldAt_12 ?_
    cases hf
    exact r_iret (pc := 13) cx rfl rfl dX10_heldAt_13
theorem yv_X10_heldAt : YV yX10_heldAt cX10_heldAt 4 (some .int) 2 := ⟨⟨by decide +kernel, by decide +kernel, by decide +kernel⟩, wd_1759, wd_102, wd_1758, wd_78⟩
def f_M_queued (v : T_M) (a1 : Int32) (a2 : Int32) (a3 : Int32) : Option (Int32 × T_M) :=
  (if a3 < (0 : Int32) then (some ((0 : Int32), ((M_tp v), (M_rd v), (M_lf v), (M_cd v), (M_rn v), (M_ex v), (M_im v), (M_al v), (0 : Int32)))) else (if (0 : Int32) ≤ a2 then (if a1 = (0 : Int32) then (if ((M_s (M_rn v)) (86 : Int32).toNatClampNeg) ≤ a2 then (some ((0 : Int32), ((M_tp v), (M_rd v), (M_lf v), (M_cd v), (M_rn v), (M_ex v), (M_im v), (M_al v), (0 : Int32)))) else (if (2 : Int32) ≤ a3 then (some ((0 : Int32), ((M_tp v), (M_rd v), (M_lf v), (M_cd v), (M_rn v), (M_ex v), (M_im v), (M_al v), (0 : Int32)))) else (if a3 = (0 : Int32) then (if ix ((87 : Int32) + a2) 314 then (some (((M_s (M_rn v)) (((87 : Int32) + a2)).toNatClampNeg), ((M_tp v), (M_rd v), (M_lf v), (M_cd v), (M_rn v), (M_ex v), (M_im v), (M_al v), (0 : Int32)))) else none) else (if ix ((95 : Int32) + a2) 314 then (some (((M_s (M_rn v)) (((95 : Int32) + a2)).toNatClampNeg), ((M_tp v), (M_rd v), (M_lf v), (M_cd v), (M_rn v), (M_ex v), (M_im v), (M_al v), (0 : Int32)))) else none)))) else (if a1 = (1 : Int32) then (if ((M_s (M_rn v)) (103 : Int32).toNatClampNeg) ≤ a2 then (some ((0 : Int32), ((M_tp v), (M_rd v), (M_lf v), (M_cd v), (M_rn v), (M_ex v), (M_im v), (M_al v), (0 : Int32)))) else (if a3 = (0 : Int32) then (if ix ((104 : Int32) + a2) 314 then (some (((M_s (M_rn v)) (((104 : Int32) + a2)).toNatClampNeg), ((M_tp v), (M_rd v), (M_lf v), (M_cd v), (M_rn v), (M_ex v), (M_im v), (M_al v), (0 : Int32)))) else none) else (some ((0 : Int32), ((M_tp v), (M_rd v), (M_lf v), (M_cd v), (M_rn v), (M_ex v), (M_im v), (M_al v), (0 : Int32)))))) else (if a1 = (2 : Int32) then (if ((M_s (M_rn v)) (112 : Int32).toNatClampNeg) ≤ a2 then (some ((0 : Int32), ((M_tp v), (M_rd v), (M_lf v), (M_cd v), (M_rn v), (M_ex v), (M_im v), (M_al v), (0 : Int32)))) else (if (5 : Int32) ≤ a3 then (some ((0 : Int32), ((M_tp v), (M_rd v), (M_lf v), (M_cd v), (M_rn v), (M_ex v), (M_im v), (M_al v), (0 : Int32)))) else (bd (f_M_heldAt ((M_tp v), (M_rd v), (M_lf v), (M_cd v), (M_rn v), (M_ex v), (M_im v), (M_al v), (0 : Int32)) a2 a3) fun (r8 : Int32) => (some (r8, ((M_tp v), (M_rd v), (M_lf v), (M_cd v), (M_rn v), (M_ex v), (M_im v), (M_al v), (0 : Int32))))))) else (some ((0 : Int32), ((M_tp v), (M_rd v), (M_lf v), (M_cd v), (M_rn v), (M_ex v), (M_im v), (M_al v), (0 : Int32))))))) else (some ((0 : Int32), ((M_tp v), (M_rd v), (M_lf v), (M_cd v), (M_rn v), (M_ex v), (M_im v), (M_al v), (0 : Int32))))))
abbrev rm_M_queued : Room := { frames := 1, cells := 0, slots := 0, locals := 23 }
set_option maxRecDepth 100000 in
set_option maxHeartbeats 4000000 in
theorem m_M_queued (l : Launch) (D : va_G) (K : Nat → ClassId) (q : Nat → Nat) (v : T_M) (a1 : Int32) (a2 : Int32) (a3 : Int32) {r_ : Int32} {o_v : T_M} (hf : f_M_queued v a1 a2 a3 = some (r_, o_v)) : MI l yX10_queued cX10_queued 4 (some .int) rm_M_queued D K [.ref (q 0), .int a1, .int a2, .int a3] (cl_M K q v) r_ (cl_M K q o_v) := by
  refine MI_of (loc0 := [(0, .ref (q 0)), (1, .int a1), (2, .int a2), (3, .int a3)]) (by decide +kernel) rfl (Nat.le_of_ble_eq_true rfl) ?_
  intro p e s m args below meth c A cx
  unfold f_M_queued at hf
  refine r_ws (ws' := [((q 0), ob 9 [.int (M_thrown v), .ref (q 1), .int (M_taped (M_tp v)), .ref (q 2), .ref (q 3), .ref (q 4), .ref (q 5), .ref (q 6), .ref (q 7), .ref (q 8), .ref (q 9), .ref (q 10), .ref (q 11), .ref (q 12), .ref (q 13), .ref (q 14), .int (M_lines (M_rd v)), .int (M_size (M_rd v)), .int (M_at (M_rd v)), .int (M_place (M_rd v)), .int (M_sort (M_rd v)), .int (M_value (M_rd v)), .int (M_fault (M_rd v)), .int (M_faultPlace (M_rd v)), .int (M_lastFault (M_lf v)), .int (M_lastPlace (M_lf v)), .ref (q 15), .ref (q 16), .ref (q 17), .ref (q 18), .int (M_hasImage (M_im v)), .int (M_spanNow (M_rn v)), .ref (q 19), .int (M_placeThen (M_rn v)), .int (M_alonePlace (M_al v)), .int (M_aloneSteps (M_al v)), .int (M_aloneOut (M_al v)), .ref (q 20), .ref (q 21), .ref (q 22), .ref (q 23), .int (M_shotAlarm (M_ex v)), .int (M_drawn (M_ex v))]), ((q 1), aI K 700 (M_tape (M_tp v))), ((q 2), aI K 20 (M_number (M_cd v))), ((q 3), aZ K 5 (M_isTold (M_rd v))), ((q 4), aI K 80 (M_codeSort (M_cd v))), ((q 5), aI K 80 (M_codeA (M_cd v))), ((q 6), aI K 80 (M_codeB (M_cd v))), ((q 7), aI K 80 (M_codeC (M_cd v))), ((q 8), aI K 80 (M_codeName (M_cd v))), ((q 9), aI K 80 (M_codePlace (M_cd v))), ((q 10), aI K 80 (M_codeTo (M_cd v))), ((q 11), aI K 280 (M_labelName (M_cd v))), ((q 12), aI K 280 (M_labelAt (M_cd v))), ((q 13), aI K 64 (M_data (M_cd v))), ((q 14), aZ K 32 (M_hasData (M_rd v))), ((q 15), aI K 314 (M_s (M_rn v))), ((q 16), aI K 314 (M_aside (M_ex v))), ((q 17), aI K 314 (M_further (M_ex v))), ((q 18), aI K 314 (M_image (M_im v))), ((q 19), aI K 3 (M_sizeNow (M_rn v))), ((q 20), aI K 8 (M_aloneRegister (M_al v))), ((q 21), aI K 4 (M_aloneReal (M_al v))), ((q 22), aI K 32 (M_aloneMemory (M_al v))), ((q 23), aI K 999 (M_aloneOutput (M_al v)))]) rfl ?_
  refine r_aload_n (pc := 0) cx dX10_queued_0 0 rfl ?_
  refine r_iconst (pc := 1) cx dX10_queued_1 ic_0 ?_
  refine r_putI (pc := 2) (ws' := [((q 0), ob 9 [.int (0 : Int32), .ref (q 1), .int (M_taped (M_tp v)), .ref (q 2), .ref (q 3), .ref (q 4), .ref (q 5), .ref (q 6), .ref (q 7), .ref (q 8), .ref (q 9), .ref (q 10), .ref (q 11), .ref (q 12), .ref (q 13), .ref (q 14), .int (M_lines (M_rd v)), .int (M_size (M_rd v)), .int (M_at (M_rd v)), .int (M_place (M_rd v)), .int (M_sort (M_rd v)), .int (M_value (M_rd v)), .int (M_fault (M_rd v)), .int (M_faultPlace (M_rd v)), .int (M_lastFault (M_lf v)), .int (M_lastPlace (M_lf v)), .ref (q 15), .ref (q 16), .ref (q 17), .ref (q 18), .int (M_hasImage (M_im v)), .int (M_spanNow (M_rn v)), .ref (q 19), .int (M_placeThen (M_rn v)), .int (M_alonePlace (M_al v)), .int (M_aloneSteps (M_al v)), .int (M_aloneOut (M_al v)), .ref (q 20), .ref (q 21), .ref (q 22), .ref (q 23), .int (M_shotAlarm (M_ex v)), .int (M_drawn (M_ex v))]), ((q 1), aI K 700 (M_tape (M_tp v))), ((q 2), aI K 20 (M_number (M_cd v))), ((q 3), aZ K 5 (M_isTold (M_rd v))), ((q 4), aI K 80 (M_codeSort (M_cd v))), ((q 5), aI K 80 (M_codeA (M_cd v))), ((q 6), aI K 80 (M_codeB (M_cd v))), ((q 7), aI K 80 (M_codeC (M_cd v))), ((q 8), aI K 80 (M_codeName (M_cd v))), ((q 9), aI K 80 (M_codePlace (M_cd v))), ((q 10), aI K 80 (M_codeTo (M_cd v))), ((q 11), aI K 280 (M_labelName (M_cd v))), ((q 12), aI K 280 (M_labelAt (M_cd v))), ((q 13), aI K 64 (M_data (M_cd v))), ((q 14), aZ K 32 (M_hasData (M_rd v))), ((q 15), aI K 314 (M_s (M_rn v))), ((q 16), aI K 314 (M_aside (M_ex v))), ((q 17), aI K 314 (M_further (M_ex v))), ((q 18), aI K 314 (M_image (M_im v))), ((q 19), aI K 3 (M_sizeNow (M_rn v))), ((q 20), aI K 8 (M_aloneRegister (M_al v))), ((q 21), aI K 4 (M_aloneReal (M_al v))), ((q 22), aI K 32 (M_aloneMemory (M_al v))), ((q 23), aI K 999 (M_aloneOutput (M_al v)))]) cx cf_X10 0 0 rfl (by decide) (Nat.le_of_ble_eq_true rfl) rfl pfd_I wd_1316 dX10_queued_2 rfl ?_
  refine r_iload_n (pc := 5) cx dX10_queued_5 3 rfl ?_
  refine r_if_lt (pc := 6) (tgt := 13) cx dX10_queued_6 (by decide) (fun h1 => ?_) (fun h1 => ?_)
  · have hf := ifp h1 hf
    refine r_iconst (pc := 13) cx dX10_queued_13 ic_0 ?_
    cases hf
    exact r_iret (pc := 14) cx rfl rfl dX10_queued_14
  · have hf := ifn h1 hf
    refine r_iload_n (pc := 9) cx dX10_queued_9 2 rfl ?_
    refine r_if_ge (pc := 10) (tgt := 15) cx dX10_queued_10 (by decide) (fun h2 => ?_) (fun h2 => ?_)
    · have hf := ifp h2 hf
      refine r_iload_n (pc := 15) cx dX10_queued_15 1 rfl ?_
      refine r_if_ne (pc := 16) (tgt := 60) cx dX10_queued_16 (by decide) (fun h3 => ?_) (fun h3 => ?_)
      · have hf := ifn h3 hf
        refine r_iload_n (pc := 60) cx dX10_queued_60 1 rfl ?_
        refine r_iconst (pc := 61) cx dX10_queued_61 ic_1 ?_
        refine r_icmp_ne (pc := 62) (tgt := 94) cx dX10_queued_62 (by decide) (fun h4 => ?_) (fun h4 => ?_)
        · have hf := ifn h4 hf
          refine r_iload_n (pc := 94) cx dX10_queued_94 1 rfl ?_
          refine r_iconst (pc := 95) cx dX10_queued_95 ic_2 ?_
          refine r_icmp_ne (pc := 96) (tgt := 124) cx dX10_queued_96 (by decide) (fun h5 => ?_) (fun h5 => ?_)
          · have hf := ifn h5 hf
            refine r_iconst (pc := 124) cx dX10_queued_124 ic_0 ?_
            cases hf
            exact r_iret (pc := 125) cx rfl rfl dX10_queued_125
          · have hf := ifp h5 hf
            refine r_iload_n (pc := 99) cx dX10_queued_99 2 rfl ?_
            refine r_aload_n (pc := 100) cx dX10_queued_100 0 rfl ?_
            refine r_get (pc := 101) cx cf_X10 0 26 rfl (by decide) rfl wd_1342 dX10_queued_101 ?_
            refine r_bipush (pc := 104) cx dX10_queued_104 bp_112 ?_
            refine r_iald (pc := 106) cx 15 rfl (by decide) dX10_queued_106 ?_
            refine r_icmp_ge (pc := 107) (tgt := 124) cx dX10_queued_107 (by decide) (fun h6 => ?_) (fun h6 => ?_)
            · have hf := ifp h6 hf
              refine r_iconst (pc := 124) cx dX10_queued_124 ic_0 ?_
              cases hf
              exact r_iret (pc := 125) cx rfl rfl dX10_queued_125
            · have hf := ifn h6 hf
              refine r_iload_n (pc := 110) cx dX10_queued_110 3 rfl ?_
              refine r_iconst (pc := 111) cx dX10_queued_111 ic_5 ?_
              refine r_icmp_ge (pc := 112) (tgt := 124) cx dX10_queued_112 (by decide) (fun h7 => ?_) (fun h7 => ?_)
              · have hf := ifp h7 hf
                refine r_iconst (pc := 124) cx dX10_queued_124 ic_0 ?_
                cases hf
                exact r_iret (pc := 125) cx rfl rfl dX10_queued_125
              · have hf := ifn h7 hf
                refine r_aload_n (pc := 115) cx dX10_queued_115 0 rfl ?_
                refine r_iload_n (pc := 116) cx dX10_queued_116 2 rfl ?_
                refine r_iload_n (pc := 117) cx dX10_queued_117 3 rfl ?_
                obtain ⟨r8, hc9, hf⟩ := bd_of hf
                refine r_Vi (pc := 118) (ws' := [((q 0), ob 9 [.int (0 : Int32), .ref (q 1), .int (M_taped (M_tp v)), .ref (q 2), .ref (q 3), .ref (q 4), .ref (q 5), .ref (q 6), .ref (q 7), .ref (q 8), .ref (q 9), .ref (q 10), .ref (q 11), .ref (q 12), .ref (q 13), .ref (q 14), .int (M_lines (M_rd v)), .int (M_size (M_rd v)), .int (M_at (M_rd v)), .int (M_place (M_rd v)), .int (M_sort (M_rd v)), .int (M_value (M_rd v)), .int (M_fault (M_rd v)), .int (M_faultPlace (M_rd v)), .int (M_lastFault (M_lf v)), .int (M_lastPlace (M_lf v)), .ref (q 15), .ref (q 16), .ref (q 17), .ref (q 18), .int (M_hasImage (M_im v)), .int (M_spanNow (M_rn v)), .ref (q 19), .int (M_placeThen (M_rn v)), .int (M_alonePlace (M_al v)), .int (M_aloneSteps (M_al v)), .int (M_aloneOut (M_al v)), .ref (q 20), .ref (q 21), .ref (q 22), .ref (q 23), .int (M_shotAlarm (M_ex v)), .int (M_drawn (M_ex v))]), ((q 1), aI K 700 (M_tape (M_tp v))), ((q 2), aI K 20 (M_number (M_cd v))), ((q 3), aZ K 5 (M_isTold (M_rd v))), ((q 4), aI K 80 (M_codeSort (M_cd v))), ((q 5), aI K 80 (M_codeA (M_cd v))), ((q 6), aI K 80 (M_codeB (M_cd v))), ((q 7), aI K 80 (M_codeC (M_cd v))), ((q 8), aI K 80 (M_codeName (M_cd v))), ((q 9), aI K 80 (M_codePlace (M_cd v))), ((q 10), aI K 80 (M_codeTo (M_cd v))), ((q 11), aI K 280 (M_labelName (M_cd v))), ((q 12), aI K 280 (M_labelAt (M_cd v))), ((q 13), aI K 64 (M_data (M_cd v))), ((q 14), aZ K 32 (M_hasData (M_rd v))), ((q 15), aI K 314 (M_s (M_rn v))), ((q 16), aI K 314 (M_aside (M_ex v))), ((q 17), aI K 314 (M_further (M_ex v))), ((q 18), aI K 314 (M_image (M_im v))), ((q 19), aI K 3 (M_sizeNow (M_rn v))), ((q 20), aI K 8 (M_aloneRegister (M_al v))), ((q 21), aI K 4 (M_aloneReal (M_al v))), ((q 22), aI K 32 (M_aloneMemory (M_al v))), ((q 23), aI K 999 (M_aloneOutput (M_al v)))]) (nn := 24) cx [.int a2, .int a3] [] (m_M_heldAt l D K q ((M_tp v), (M_rd v), (M_lf v), (M_cd v), (M_rn v), (M_ex v), (M_im v), (M_al v), (0 : Int32)) a2 a3 hc9) yv_X10_heldAt wd_1756 ⟨rfl, rfl⟩ (by decide) (fr_s (j := 0) rfl rfl rfl (fr_s (j := 1) rfl rfl rfl (fr_s (j := 2) rfl rfl rfl (fr_s (j := 3) rfl rfl rfl (fr_s (j := 4) rfl rfl rfl (fr_s (j := 5) rfl rfl rfl (fr_s (j := 6) rfl rfl rfl (fr_s (j := 7) rfl rfl rfl (fr_s (j := 8) rfl rfl rfl (fr_s (j := 9) rfl rfl rfl (fr_s (j := 10) rfl rfl rfl (fr_s (j := 11) rfl rfl rfl (fr_s (j := 12) rfl rfl rfl (fr_s (j := 13) rfl rfl rfl (fr_s (j := 14) rfl rfl rfl (fr_s (j := 15) rfl rfl rfl (fr_s (j := 16) rfl rfl rfl (fr_s (j := 17) rfl rfl rfl (fr_s (j := 18) rfl rfl rfl (fr_s (j := 19) rfl rfl rfl (fr_s (j := 20) rfl rfl rfl (fr_s (j := 21) rfl rfl rfl (fr_s (j := 22) rfl rfl rfl (fr_s (j := 23) rfl rfl rfl (fr_n))))))))))))))))))))))))) rfl (by decide) 0 rfl rfl rfl (Nat.le_of_ble_eq_true rfl) dX10_queued_118 ?_
                refine r_goto (pc := 121) (tgt := 125) cx dX10_queued_121 (by decide) ?_
                cases hf
                exact r_iret (pc := 125) cx rfl rfl dX10_queued_125
        · have hf := ifp h4 hf
          refine r_iload_n (pc := 65) cx dX10_queued_65 2 rfl ?_
          refine r_aload_n (pc := 66) cx dX10_queued_66 0 rfl ?_
          refine r_get (pc := 67) cx cf_X10 0 26 rfl (by decide) rfl wd_1342 dX10_queued_67 ?_
          refine r_bipush (pc := 70) cx dX10_queued_70 bp_103 ?_
          refine r_iald (pc := 72) cx 15 rfl (by decide) dX10_queued_72 ?_
          refine r_icmp_ge (pc := 73) (tgt := 92) cx dX10_queued_73 (by decide) (fun h10 => ?_) (fun h10 => ?_)
          · have hf := ifp h10 hf
            refine r_iconst (pc := 92) cx dX10_queued_92 ic_0 ?_
            cases hf
            exact r_iret (pc := 93) cx rfl rfl dX10_queued_93
          · have hf := ifn h10 hf
            refine r_iload_n (pc := 76) cx dX10_queued_76 3 rfl ?_
            refine r_if_ne (pc := 77) (tgt := 92) cx dX10_queued_77 (by decide) (fun h11 => ?_) (fun h11 => ?_)
            · have hf := ifn h11 hf
              refine r_iconst (pc := 92) cx dX10_queued_92 ic_0 ?_
              cases hf
              exact r_iret (pc := 93) cx rfl rfl dX10_queued_93
            · have hf := ifp h11 hf
              refine r_aload_n (pc := 80) cx dX10_queued_80 0 rfl ?_
              refine r_get (pc := 81) cx cf_X10 0 26 rfl (by decide) rfl wd_1342 dX10_queued_81 ?_
              refine r_bipush (pc := 84) cx dX10_queued_84 bp_104 ?_
              refine r_iload_n (pc := 86) cx dX10_queued_86 2 rfl ?_
              refine r_iadd (pc := 87) cx dX10_queued_87 ?_
              obtain ⟨h12, hf⟩ := chk_of hf
              refine r_iald (pc := 88) cx 15 rfl h12 dX10_queued_88 ?_
              refine r_goto (pc := 89) (tgt := 93) cx dX10_queued_89 (by decide) ?_
              cases hf
              exact r_iret (pc := 93) cx rfl rfl dX10_queued_93
      · have hf := ifp h3 hf
        refine r_iload_n (pc := 19) cx dX10_queued_19 2 rfl ?_
        refine r_aload_n (pc := 20) cx dX10_queued_20 0 rfl ?_
        refine r_get (pc := 21) cx cf_X10 0 26 rfl (by decide) rfl wd_1342 dX10_queued_21 ?_
        refine r_bipush (pc := 24) cx dX10_queued_24 bp_86 ?_
        refine r_iald (pc := 26) cx 15 rfl (by decide) dX10_queued_26 ?_
        refine r_icmp_ge (pc := 27) (tgt := 58) cx dX10_queued_27 (by decide) (fun h13 => ?_) (fun h13 => ?_)
        · have hf := ifp h13 hf
          refine r_iconst (pc := 58) cx dX10_queued_58 ic_0 ?_
          cases hf
          exact r_iret (pc := 59) cx rfl rfl dX10_queued_59
        · have hf := ifn h13 hf
          refine r_iload_n (pc := 30) cx dX10_queued_30 3 rfl ?_
          refine r_iconst (pc := 31) cx dX10_queued_31 ic_2 ?_
          refine r_icmp_ge (pc := 32) (tgt := 58) cx dX10_queued_32 (by decide) (fun h14 => ?_) (fun h14 => ?_)
          · have hf := ifp h14 hf
            refine r_iconst (pc := 58) cx dX10_queued_58 ic_0 ?_
            cases hf
            exact r_iret (pc := 59) cx rfl rfl dX10_queued_59
          · have hf := ifn h14 hf
            refine r_aload_n (pc := 35) cx dX10_queued_35 0 rfl ?_
            refine r_get (pc := 36) cx cf_X10 0 26 rfl (by decide) rfl wd_1342 dX10_queued_36 ?_
            refine r_iload_n (pc := 39) cx dX10_queued_39 3 rfl ?_
            refine r_if_ne (pc := 40) (tgt := 50) cx dX10_queued_40 (by decide) (fun h15 => ?_) (fun h15 => ?_)
            · have hf := ifn h15 hf
              refine r_bipush (pc := 50) cx dX10_queued_50 bp_95 ?_
              refine r_iload_n (pc := 52) cx dX10_queued_52 2 rfl ?_
              refine r_iadd (pc := 53) cx dX10_queued_53 ?_
              obtain ⟨h16, hf⟩ := chk_of hf
              refine r_iald (pc := 54) cx 15 rfl h16 dX10_queued_54 ?_
              refine r_goto (pc := 55) (tgt := 59) cx dX10_queued_55 (by decide) ?_
              cases hf
              exact r_iret (pc := 59) cx rfl rfl dX10_queued_59
            · have hf := ifp h15 hf
              refine r_bipush (pc := 43) cx dX10_queued_43 bp_87 ?_
              refine r_iload_n (pc := 45) cx dX10_queued_45 2 rfl ?_
              refine r_iadd (pc := 46) cx dX10_queued_46 ?_
              refine r_goto (pc := 47) (tgt := 54) cx dX10_queued_47 (by decide) ?_
              obtain ⟨h17, hf⟩ := chk_of hf
              refine r_iald (pc := 54) cx 15 rfl h17 dX10_queued_54 ?_
              refine r_goto (pc := 55) (tgt := 59) cx dX10_queued_55 (by decide) ?_
              cases hf
              exact r_iret (pc := 59) cx rfl rfl dX10_queued_59
    · have hf := ifn h2 hf
      refine r_iconst (pc := 13) cx dX10_queued_13 ic_0 ?_
      cases hf
      exact r_iret (pc := 14) cx rfl rfl dX10_queued_14
theorem yv_X10_queued : YV yX10_queued cX10_queued 4 (some .int) 3 := ⟨⟨by decide +kernel, by decide +kernel, by decide +kernel⟩, wd_1755, wd_102, wd_1753, wd_1754⟩
def f_M_next (v : T_M) : Option (Int32 × T_M) :=
  (bd (f_M_isOver ((M_tp v), (M_rd v), (M_lf v), (M_cd v), (M_rn v), (M_ex v), (M_im v), (M_al v), (0 : Int32))) fun (r1 : Int32) => (if r1 = (0 : Int32) then (bd (f_M_trailerWhy ((M_tp v), (M_rd v), (M_lf v), (M_cd v), (M_rn v), (M_ex v), (M_im v), (M_al v), (0 : Int32))) fun (r4 : Int32) => (nm (fun (y6 : Int32) => ((nm ((M_s (M_rn v)) (221 : Int32).toNatClampNeg) fun (x8 : Int32) => (bd (f_M_copies (M_s (M_rn v)) (M_aside (M_ex v))) fun (v9 : (Nat → Int32)) => (bd2 (f_M_turns ((M_tp v), (M_rd v), (M_lf v), (M_cd v), (M_rn v), (v9, (M_further (M_ex v)), (M_shotAlarm (M_ex v)), (M_drawn (M_ex v))), (M_im v), (M_al v), (0 : Int32)) (0 : Int32)) fun (r11 : Int32) (v12 : T_M) => (nm (fun (y14 : Int32) => ((bd (f_M_copies (M_aside (M_ex v12)) (M_s (M_rn v12))) fun (v16 : (Nat → Int32)) => (some (y14, ((M_tp v12), (M_rd v12), (M_lf v12), (M_cd v12), (v16, (M_spanNow (M_rn v12)), (M_sizeNow (M_rn v12)), (M_placeThen (M_rn v12))), (M_ex v12), (M_im v12), (M_al v12), (M_thrown v12))))) : Option (Int32 × T_M))) fun J15 => (if ((M_s (M_rn v12)) (221 : Int32).toNatClampNeg) ≤ x8 then (J15 y6) else (J15 ((10 : Int32) + ((M_s (M_rn v12)) (233 : Int32).toNatClampNeg)))))))) : Option (Int32 × T_M))) fun J7 => (if r4 = (0 : Int32) then (J7 (0 : Int32)) else (bd (f_M_leaderWhy ((M_tp v), (M_rd v), (M_lf v), (M_cd v), (M_rn v), (M_ex v), (M_im v), (M_al v), (0 : Int32))) fun (r20 : Int32) => (if r20 = (0 : Int32) then (J7 (1 : Int32)) else (J7 (2 : Int32))))))) else (some ((-2 : Int32), ((M_tp v), (M_rd v), (M_lf v), (M_cd v), (M_rn v), (M_ex v), (M_im v), (M_al v), (0 : Int32))))))
abbrev rm_M_next : Room := { frames := 6, cells := 0, slots := 0, locals := 147 }
set_option maxRecDepth 100000 in
set_option maxHeartbeats 4000000 in
theorem m_M_next (l : Launch) (D : va_G) (K : Nat → ClassId) (q : Nat → Nat) (v : T_M) {r_ : Int32} {o_v : T_M} (hf : f_M_next v = some (r_, o_v)) : MI l yX10_next cX10_next 4 (some .int) rm_M_next D K [.ref (q 0)] (cl_M K q v) r_ (cl_M K q o_v) := by
  refine MI_of (loc0 := [(0, .ref (q 0))]) (by decide +kernel) rfl (Nat.le_of_ble_eq_true rfl) ?_
  intro p e s m args below meth c A cx
  unfold f_M_next at hf
  refine r_ws (ws' := [((q 0), ob 9 [.int (M_thrown v), .ref (q 1), .int (M_taped (M_tp v)), .ref (q 2), .ref (q 3), .ref (q 4), .ref (q 5), .ref (q 6), .ref (q 7), .ref (q 8), .ref (q 9), .ref (q 10), .ref (q 11), .ref (q 12), .ref (q 13), .ref (q 14), .int (M_lines (M_rd v)), .int (M_size (M_rd v)), .int (M_at (M_rd v)), .int (M_place (M_rd v)), .int (M_sort (M_rd v)), .int (M_value (M_rd v)), .int (M_fault (M_rd v)), .int (M_faultPlace (M_rd v)), .int (M_lastFault (M_lf v)), .int (M_lastPlace (M_lf v)), .ref (q 15), .ref (q 16), .ref (q 17), .ref (q 18), .int (M_hasImage (M_im v)), .int (M_spanNow (M_rn v)), .ref (q 19), .int (M_placeThen (M_rn v)), .int (M_alonePlace (M_al v)), .int (M_aloneSteps (M_al v)), .int (M_aloneOut (M_al v)), .ref (q 20), .ref (q 21), .ref (q 22), .ref (q 23), .int (M_shotAlarm (M_ex v)), .int (M_drawn (M_ex v))]), ((q 1), aI K 700 (M_tape (M_tp v))), ((q 2), aI K 20 (M_number (M_cd v))), ((q 3), aZ K 5 (M_isTold (M_rd v))), ((q 4), aI K 80 (M_codeSort (M_cd v))), ((q 5), aI K 80 (M_codeA (M_cd v))), ((q 6), aI K 80 (M_codeB (M_cd v))), ((q 7), aI K 80 (M_codeC (M_cd v))), ((q 8), aI K 80 (M_codeName (M_cd v))), ((q 9), aI K 80 (M_codePlace (M_cd v))), ((q 10), aI K 80 (M_codeTo (M_cd v))), ((q 11), aI K 280 (M_labelName (M_cd v))), ((q 12), aI K 280 (M_labelAt (M_cd v))), ((q 13), aI K 64 (M_data (M_cd v))), ((q 14), aZ K 32 (M_hasData (M_rd v))), ((q 15), aI K 314 (M_s (M_rn v))), ((q 16), aI K 314 (M_aside (M_ex v))), ((q 17), aI K 314 (M_further (M_ex v))), ((q 18), aI K 314 (M_image (M_im v))), ((q 19), aI K 3 (M_sizeNow (M_rn v))), ((q 20), aI K 8 (M_aloneRegister (M_al v))), ((q 21), aI K 4 (M_aloneReal (M_al v))), ((q 22), aI K 32 (M_aloneMemory (M_al v))), ((q 23), aI K 999 (M_aloneOutput (M_al v)))]) rfl ?_
  refine r_aload_n (pc := 0) cx dX10_next_0 0 rfl ?_
  refine r_iconst (pc := 1) cx dX10_next_1 ic_0 ?_
  refine r_putI (pc := 2) (ws' := [((q 0), ob 9 [.int (0 : Int32), .ref (q 1), .int (M_taped (M_tp v)), .ref (q 2), .ref (q 3), .ref (q 4), .ref (q 5), .ref (q 6), .ref (q 7), .ref (q 8), .ref (q 9), .ref (q 10), .ref (q 11), .ref (q 12), .ref (q 13), .ref (q 14), .int (M_lines (M_rd v)), .int (M_size (M_rd v)), .int (M_at (M_rd v)), .int (M_place (M_rd v)), .int (M_sort (M_rd v)), .int (M_value (M_rd v)), .int (M_fault (M_rd v)), .int (M_faultPlace (M_rd v)), .int (M_lastFault (M_lf v)), .int (M_lastPlace (M_lf v)), .ref (q 15), .ref (q 16), .ref (q 17), .ref (q 18), .int (M_hasImage (M_im v)), .int (M_spanNow (M_rn v)), .ref (q 19), .int (M_placeThen (M_rn v)), .int (M_alonePlace (M_al v)), .int (M_aloneSteps (M_al v)), .int (M_aloneOut (M_al v)), .ref (q 20), .ref (q 21), .ref (q 22), .ref (q 23), .int (M_shotAlarm (M_ex v)), .int (M_drawn (M_ex v))]), ((q 1), aI K 700 (M_tape (M_tp v))), ((q 2), aI K 20 (M_number (M_cd v))), ((q 3), aZ K 5 (M_isTold (M_rd v))), ((q 4), aI K 80 (M_codeSort (M_cd v))), ((q 5), aI K 80 (M_codeA (M_cd v))), ((q 6), aI K 80 (M_codeB (M_cd v))), ((q 7), aI K 80 (M_codeC (M_cd v))), ((q 8), aI K 80 (M_codeName (M_cd v))), ((q 9), aI K 80 (M_codePlace (M_cd v))), ((q 10), aI K 80 (M_codeTo (M_cd v))), ((q 11), aI K 280 (M_labelName (M_cd v))), ((q 12), aI K 280 (M_labelAt (M_cd v))), ((q 13), aI K 64 (M_data (M_cd v))), ((q 14), aZ K 32 (M_hasData (M_rd v))), ((q 15), aI K 314 (M_s (M_rn v))), ((q 16), aI K 314 (M_aside (M_ex v))), ((q 17), aI K 314 (M_further (M_ex v))), ((q 18), aI K 314 (M_image (M_im v))), ((q 19), aI K 3 (M_sizeNow (M_rn v))), ((q 20), aI K 8 (M_aloneRegister (M_al v))), ((q 21), aI K 4 (M_aloneReal (M_al v))), ((q 22), aI K 32 (M_aloneMemory (M_al v))), ((q 23), aI K 999 (M_aloneOutput (M_al v)))]) cx cf_X10 0 0 rfl (by decide) (Nat.le_of_ble_eq_true rfl) rfl pfd_I wd_1316 dX10_next_2 rfl ?_
  refine r_aload_n (pc := 5) cx dX10_next_5 0 rfl ?_
  obtain ⟨r1, hc2, hf⟩ := bd_of hf
  refine r_Vi (pc := 6) (ws' := [((q 0), ob 9 [.int (0 : Int32), .ref (q 1), .int (M_taped (M_tp v)), .ref (q 2), .ref (q 3), .ref (q 4), .ref (q 5), .ref (q 6), .ref (q 7), .ref (q 8), .ref (q 9), .ref (q 10), .ref (q 11), .ref (q 12), .ref (q 13), .ref (q 14), .int (M_lines (M_rd v)), .int (M_size (M_rd v)), .int (M_at (M_rd v)), .int (M_place (M_rd v)), .int (M_sort (M_rd v)), .int (M_value (M_rd v)), .int (M_fault (M_rd v)), .int (M_faultPlace (M_rd v)), .int (M_lastFault (M_lf v)), .int (M_lastPlace (M_lf v)), .ref (q 15), .ref (q 16), .ref (q 17), .ref (q 18), .int (M_hasImage (M_im v)), .int (M_spanNow (M_rn v)), .ref (q 19), .int (M_placeThen (M_rn v)), .int (M_alonePlace (M_al v)), .int (M_aloneSteps (M_al v)), .int (M_aloneOut (M_al v)), .ref (q 20), .ref (q 21), .ref (q 22), .ref (q 23), .int (M_shotAlarm (M_ex v)), .int (M_drawn (M_ex v))]), ((q 1), aI K 700 (M_tape (M_tp v))), ((q 2), aI K 20 (M_number (M_cd v))), ((q 3), aZ K 5 (M_isTold (M_rd v))), ((q 4), aI K 80 (M_codeSort (M_cd v))), ((q 5), aI K 80 (M_codeA (M_cd v))), ((q 6), aI K 80 (M_codeB (M_cd v))), ((q 7), aI K 80 (M_codeC (M_cd v))), ((q 8), aI K 80 (M_codeName (M_cd v))), ((q 9), aI K 80 (M_codePlace (M_cd v))), ((q 10), aI K 80 (M_codeTo (M_cd v))), ((q 11), aI K 280 (M_labelName (M_cd v))), ((q 12), aI K 280 (M_labelAt (M_cd v))), ((q 13), aI K 64 (M_data (M_cd v))), ((q 14), aZ K 32 (M_hasData (M_rd v))), ((q 15), aI K 314 (M_s (M_rn v))), ((q 16), aI K 314 (M_aside (M_ex v))), ((q 17), aI K 314 (M_further (M_ex v))), ((q 18), aI K 314 (M_image (M_im v))), ((q 19), aI K 3 (M_sizeNow (M_rn v))), ((q 20), aI K 8 (M_aloneRegister (M_al v))), ((q 21), aI K 4 (M_aloneReal (M_al v))), ((q 22), aI K 32 (M_aloneMemory (M_al v))), ((q 23), aI K 999 (M_aloneOutput (M_al v)))]) (nn := 24) cx [] [] (m_M_isOver l D K q ((M_tp v), (M_rd v), (M_lf v), (M_cd v), (M_rn v), (M_ex v), (M_im v), (M_al v), (0 : Int32)) hc2) yv_X10_isOver wd_1572 ⟨rfl, rfl⟩ (by decide) (fr_s (j := 0) rfl rfl rfl (fr_s (j := 1) rfl rfl rfl (fr_s (j := 2) rfl rfl rfl (fr_s (j := 3) rfl rfl rfl (fr_s (j := 4) rfl rfl rfl (fr_s (j := 5) rfl rfl rfl (fr_s (j := 6) rfl rfl rfl (fr_s (j := 7) rfl rfl rfl (fr_s (j := 8) rfl rfl rfl (fr_s (j := 9) rfl rfl rfl (fr_s (j := 10) rfl rfl rfl (fr_s (j := 11) rfl rfl rfl (fr_s (j := 12) rfl rfl rfl (fr_s (j := 13) rfl rfl rfl (fr_s (j := 14) rfl rfl rfl (fr_s (j := 15) rfl rfl rfl (fr_s (j := 16) rfl rfl rfl (fr_s (j := 17) rfl rfl rfl (fr_s (j := 18) rfl rfl rfl (fr_s (j := 19) rfl rfl rfl (fr_s (j := 20) rfl rfl rfl (fr_s (j := 21) rfl rfl rfl (fr_s (j := 22) rfl rfl rfl (fr_s (j := 23) rfl rfl rfl (fr_n))))))))))))))))))))))))) rfl (by decide) 0 rfl rfl rfl (Nat.le_of_ble_eq_true rfl) dX10_next_6 ?_
  refine r_if_eq (pc := 9) (tgt := 15) cx dX10_next_9 (by decide) (fun h3 => ?_) (fun h3 => ?_)
  · have hf := ifp h3 hf
    refine r_aload_n (pc := 15) cx dX10_next_15 0 rfl ?_
    obtain ⟨r4, hc5, hf⟩ := bd_of hf
    refine r_Vi (pc := 16) (ws' := [((q 0), ob 9 [.int (0 : Int32), .ref (q 1), .int (M_taped (M_tp v)), .ref (q 2), .ref (q 3), .ref (q 4), .ref (q 5), .ref (q 6), .ref (q 7), .ref (q 8), .ref (q 9), .ref (q 10), .ref (q 11), .ref (q 12), .ref (q 13), .ref (q 14), .int (M_lines (M_rd v)), .int (M_size (M_rd v)), .int (M_at (M_rd v)), .int (M_place (M_rd v)), .int (M_sort (M_rd v)), .int (M_value (M_rd v)), .int (M_fault (M_rd v)), .int (M_faultPlace (M_rd v)), .int (M_lastFault (M_lf v)), .int (M_lastPlace (M_lf v)), .ref (q 15), .ref (q 16), .ref (q 17), .ref (q 18), .int (M_hasImage (M_im v)), .int (M_spanNow (M_rn v)), .ref (q 19), .int (M_placeThen (M_rn v)), .int (M_alonePlace (M_al v)), .int (M_aloneSteps (M_al v)), .int (M_aloneOut (M_al v)), .ref (q 20), .ref (q 21), .ref (q 22), .ref (q 23), .int (M_shotAlarm (M_ex v)), .int (M_drawn (M_ex v))]), ((q 1), aI K 700 (M_tape (M_tp v))), ((q 2), aI K 20 (M_number (M_cd v))), ((q 3), aZ K 5 (M_isTold (M_rd v))), ((q 4), aI K 80 (M_codeSort (M_cd v))), ((q 5), aI K 80 (M_codeA (M_cd v))), ((q 6), aI K 80 (M_codeB (M_cd v))), ((q 7), aI K 80 (M_codeC (M_cd v))), ((q 8), aI K 80 (M_codeName (M_cd v))), ((q 9), aI K 80 (M_codePlace (M_cd v))), ((q 10), aI K 80 (M_codeTo (M_cd v))), ((q 11), aI K 280 (M_labelName (M_cd v))), ((q 12), aI K 280 (M_labelAt (M_cd v))), ((q 13), aI K 64 (M_data (M_cd v))), ((q 14), aZ K 32 (M_hasData (M_rd v))), ((q 15), aI K 314 (M_s (M_rn v))), ((q 16), aI K 314 (M_aside (M_ex v))), ((q 17), aI K 314 (M_further (M_ex v))), ((q 18), aI K 314 (M_image (M_im v))), ((q 19), aI K 3 (M_sizeNow (M_rn v))), ((q 20), aI K 8 (M_aloneRegister (M_al v))), ((q 21), aI K 4 (M_aloneReal (M_al v))), ((q 22), aI K 32 (M_aloneMemory (M_al v))), ((q 23), aI K 999 (M_aloneOutput (M_al v)))]) (nn := 24) cx [] [] (m_M_trailerWhy l D K q ((M_tp v), (M_rd v), (M_lf v), (M_cd v), (M_rn v), (M_ex v), (M_im v), (M_al v), (0 : Int32)) hc5) yv_X10_trailerWhy wd_1576 ⟨rfl, rfl⟩ (by decide) (fr_s (j := 0) rfl rfl rfl (fr_s (j := 1) rfl rfl rfl (fr_s (j := 2) rfl rfl rfl (fr_s (j := 3) rfl rfl rfl (fr_s (j := 4) rfl rfl rfl (fr_s (j := 5) rfl rfl rfl (fr_s (j := 6) rfl rfl rfl (fr_s (j := 7) rfl rfl rfl (fr_s (j := 8) rfl rfl rfl (fr_s (j := 9) rfl rfl rfl (fr_s (j := 10) rfl rfl rfl (fr_s (j := 11) rfl rfl rfl (fr_s (j := 12) rfl rfl rfl (fr_s (j := 13) rfl rfl rfl (fr_s (j := 14) rfl rfl rfl (fr_s (j := 15) rfl rfl rfl (fr_s (j := 16) rfl rfl rfl (fr_s (j := 17) rfl rfl rfl (fr_s (j := 18) rfl rfl rfl (fr_s (j := 19) rfl rfl rfl (fr_s (j := 20) rfl rfl rfl (fr_s (j := 21) rfl rfl rfl (fr_s (j := 22) rfl rfl rfl (fr_s (j := 23) rfl rfl rfl (fr_n))))))))))))))))))))))))) rfl (by decide) 0 rfl rfl rfl (Nat.le_of_ble_eq_true rfl) dX10_next_16 ?_
    obtain ⟨J7, eJ7, hf⟩ := nm_of hf
    have hJ7 : ∀ (y6 : Int32), J7 y6 = some (r_, o_v) → WW p l e rm_M_next s m args below meth c D A 4 0 0 (MQ below (QI D K A r_ (cl_M K q o_v)) args s 0 0 A) ([((q 0), ob 9 [.int (0 : Int32), .ref (q 1), .int (M_taped (M_tp v)), .ref (q 2), .ref (q 3), .ref (q 4), .ref (q 5), .ref (q 6), .ref (q 7), .ref (q 8), .ref (q 9), .ref (q 10), .ref (q 11), .ref (q 12), .ref (q 13), .ref (q 14), .int (M_lines (M_rd v)), .int (M_size (M_rd v)), .int (M_at (M_rd v)), .int (M_place (M_rd v)), .int (M_sort (M_rd v)), .int (M_value (M_rd v)), .int (M_fault (M_rd v)), .int (M_faultPlace (M_rd v)), .int (M_lastFault (M_lf v)), .int (M_lastPlace (M_lf v)), .ref (q 15), .ref (q 16), .ref (q 17), .ref (q 18), .int (M_hasImage (M_im v)), .int (M_spanNow (M_rn v)), .ref (q 19), .int (M_placeThen (M_rn v)), .int (M_alonePlace (M_al v)), .int (M_aloneSteps (M_al v)), .int (M_aloneOut (M_al v)), .ref (q 20), .ref (q 21), .ref (q 22), .ref (q 23), .int (M_shotAlarm (M_ex v)), .int (M_drawn (M_ex v))]), ((q 1), aI K 700 (M_tape (M_tp v))), ((q 2), aI K 20 (M_number (M_cd v))), ((q 3), aZ K 5 (M_isTold (M_rd v))), ((q 4), aI K 80 (M_codeSort (M_cd v))), ((q 5), aI K 80 (M_codeA (M_cd v))), ((q 6), aI K 80 (M_codeB (M_cd v))), ((q 7), aI K 80 (M_codeC (M_cd v))), ((q 8), aI K 80 (M_codeName (M_cd v))), ((q 9), aI K 80 (M_codePlace (M_cd v))), ((q 10), aI K 80 (M_codeTo (M_cd v))), ((q 11), aI K 280 (M_labelName (M_cd v))), ((q 12), aI K 280 (M_labelAt (M_cd v))), ((q 13), aI K 64 (M_data (M_cd v))), ((q 14), aZ K 32 (M_hasData (M_rd v))), ((q 15), aI K 314 (M_s (M_rn v))), ((q 16), aI K 314 (M_aside (M_ex v))), ((q 17), aI K 314 (M_further (M_ex v))), ((q 18), aI K 314 (M_image (M_im v))), ((q 19), aI K 3 (M_sizeNow (M_rn v))), ((q 20), aI K 8 (M_aloneRegister (M_al v))), ((q 21), aI K 4 (M_aloneReal (M_al v))), ((q 22), aI K 32 (M_aloneMemory (M_al v))), ((q 23), aI K 999 (M_aloneOutput (M_al v)))]) ([(0, .ref (q 0))]) ([.int y6]) 38 := by
      intro y6 hf
      rw [eJ7] at hf
      refine r_istore_n (pc := 38) (loc' := [(1, .int y6), (0, .ref (q 0))]) cx dX10_next_38 rfl (by decide) rfl ?_
      refine r_aload_n (pc := 39) cx dX10_next_39 1 rfl ?_
      refine r_get (pc := 40) cx cf_X10 0 26 rfl (by decide) rfl wd_1342 dX10_next_40 ?_
      refine r_sipush (pc := 43) cx dX10_next_43 sp_221 ?_
      refine r_iald (pc := 46) cx 15 rfl (by decide) dX10_next_46 ?_
      obtain ⟨x8, ex8, hf⟩ := nm_of hf
      refine r_nm ex8 ?_
      refine r_istore_n (pc := 47) (loc' := [(2, .int x8), (1, .int y6), (0, .ref (q 0))]) cx dX10_next_47 rfl (by decide) rfl ?_
      refine r_aload_n (pc := 48) cx dX10_next_48 2 rfl ?_
      refine r_get (pc := 49) cx cf_X10 0 26 rfl (by decide) rfl wd_1342 dX10_next_49 ?_
      refine r_aload_n (pc := 52) cx dX10_next_52 2 rfl ?_
      refine r_get (pc := 53) cx cf_X10 0 27 rfl (by decide) rfl wd_1343 dX10_next_53 ?_
      obtain ⟨v9, hc10, hf⟩ := bd_of hf
      refine r_Sv (pc := 56) (ws' := [((q 0), ob 9 [.int (0 : Int32), .ref (q 1), .int (M_taped (M_tp v)), .ref (q 2), .ref (q 3), .ref (q 4), .ref (q 5), .ref (q 6), .ref (q 7), .ref (q 8), .ref (q 9), .ref (q 10), .ref (q 11), .ref (q 12), .ref (q 13), .ref (q 14), .int (M_lines (M_rd v)), .int (M_size (M_rd v)), .int (M_at (M_rd v)), .int (M_place (M_rd v)), .int (M_sort (M_rd v)), .int (M_value (M_rd v)), .int (M_fault (M_rd v)), .int (M_faultPlace (M_rd v)), .int (M_lastFault (M_lf v)), .int (M_lastPlace (M_lf v)), .ref (q 15), .ref (q 16), .ref (q 17), .ref (q 18), .int (M_hasImage (M_im v)), .int (M_spanNow (M_rn v)), .ref (q 19), .int (M_placeThen (M_rn v)), .int (M_alonePlace (M_al v)), .int (M_aloneSteps (M_al v)), .int (M_aloneOut (M_al v)), .ref (q 20), .ref (q 21), .ref (q 22), .ref (q 23), .int (M_shotAlarm (M_ex v)), .int (M_drawn (M_ex v))]), ((q 1), aI K 700 (M_tape (M_tp v))), ((q 2), aI K 20 (M_number (M_cd v))), ((q 3), aZ K 5 (M_isTold (M_rd v))), ((q 4), aI K 80 (M_codeSort (M_cd v))), ((q 5), aI K 80 (M_codeA (M_cd v))), ((q 6), aI K 80 (M_codeB (M_cd v))), ((q 7), aI K 80 (M_codeC (M_cd v))), ((q 8), aI K 80 (M_codeName (M_cd v))), ((q 9), aI K 80 (M_codePlace (M_cd v))), ((q 10), aI K 80 (M_codeTo (M_cd v))), ((q 11), aI K 280 (M_labelName (M_cd v))), ((q 12), aI K 280 (M_labelAt (M_cd v))), ((q 13), aI K 64 (M_data (M_cd v))), ((q 14), aZ K 32 (M_hasData (M_rd v))), ((q 15), aI K 314 (M_s (M_rn v))), ((q 16), aI K 314 v9), ((q 17), aI K 314 (M_further (M_ex v))), ((q 18), aI K 314 (M_image (M_im v))), ((q 19), aI K 3 (M_sizeNow (M_rn v))), ((q 20), aI K 8 (M_aloneRegister (M_al v))), ((q 21), aI K 4 (M_aloneReal (M_al v))), ((q 22), aI K 32 (M_aloneMemory (M_al v))), ((q 23), aI K 999 (M_aloneOutput (M_al v)))]) (nn := 2) cx [.ref (q 15), .ref (q 16)] [] (m_M_copies l D K (fun i => q (i + 15)) (M_s (M_rn v)) (fun i => q (i + 16)) (M_aside (M_ex v)) hc10) ys_X10_copies wd_1764 ⟨rfl, rfl⟩ (by decide) (fr_k (fr_k (fr_k (fr_k (fr_k (fr_k (fr_k (fr_k (fr_k (fr_k (fr_k (fr_k (fr_k (fr_k (fr_k (fr_s (j := 0) rfl rfl rfl (fr_s (j := 1) rfl rfl rfl (fr_k (fr_k (fr_k (fr_k (fr_k (fr_k (fr_k (fr_n))))))))))))))))))))))))) rfl (by decide) rfl (Nat.le_of_ble_eq_true rfl) dX10_next_56 ?_
      refine r_aload_n (pc := 59) cx dX10_next_59 2 rfl ?_
      refine r_iconst (pc := 60) cx dX10_next_60 ic_0 ?_
      obtain ⟨r11, v12, hc13, hf⟩ := bd2_of hf
      refine r_Vi (pc := 61) (ws' := [((q 0), ob 9 [.int (M_thrown v12), .ref (q 1), .int (M_taped (M_tp v12)), .ref (q 2), .ref (q 3), .ref (q 4), .ref (q 5), .ref (q 6), .ref (q 7), .ref (q 8), .ref (q 9), .ref (q 10), .ref (q 11), .ref (q 12), .ref (q 13), .ref (q 14), .int (M_lines (M_rd v12)), .int (M_size (M_rd v12)), .int (M_at (M_rd v12)), .int (M_place (M_rd v12)), .int (M_sort (M_rd v12)), .int (M_value (M_rd v12)), .int (M_fault (M_rd v12)), .int (M_faultPlace (M_rd v12)), .int (M_lastFault (M_lf v12)), .int (M_lastPlace (M_lf v12)), .ref (q 15), .ref (q 16), .ref (q 17), .ref (q 18), .int (M_hasImage (M_im v12)), .int (M_spanNow (M_rn v12)), .ref (q 19), .int (M_placeThen (M_rn v12)), .int (M_alonePlace (M_al v12)), .int (M_aloneSteps (M_al v12)), .int (M_aloneOut (M_al v12)), .ref (q 20), .ref (q 21), .ref (q 22), .ref (q 23), .int (M_shotAlarm (M_ex v12)), .int (M_drawn (M_ex v12))]), ((q 1), aI K 700 (M_tape (M_tp v12))), ((q 2), aI K 20 (M_number (M_cd v12))), ((q 3), aZ K 5 (M_isTold (M_rd v12))), ((q 4), aI K 80 (M_codeSort (M_cd v12))), ((q 5), aI K 80 (M_codeA (M_cd v12))), ((q 6), aI K 80 (M_codeB (M_cd v12))), ((q 7), aI K 80 (M_codeC (M_cd v12))), ((q 8), aI K 80 (M_codeName (M_cd v12))), ((q 9), aI K 80 (M_codePlace (M_cd v12))), ((q 10), aI K 80 (M_codeTo (M_cd v12))), ((q 11), aI K 280 (M_labelName (M_cd v12))), ((q 12), aI K 280 (M_labelAt (M_cd v12))), ((q 13), aI K 64 (M_data (M_cd v12))), ((q 14), aZ K 32 (M_hasData (M_rd v12))), ((q 15), aI K 314 (M_s (M_rn v12))), ((q 16), aI K 314 (M_aside (M_ex v12))), ((q 17), aI K 314 (M_further (M_ex v12))), ((q 18), aI K 314 (M_image (M_im v12))), ((q 19), aI K 3 (M_sizeNow (M_rn v12))), ((q 20), aI K 8 (M_aloneRegister (M_al v12))), ((q 21), aI K 4 (M_aloneReal (M_al v12))), ((q 22), aI K 32 (M_aloneMemory (M_al v12))), ((q 23), aI K 999 (M_aloneOutput (M_al v12)))]) (nn := 24) cx [.int (0 : Int32)] [] (m_M_turns l D K q ((M_tp v), (M_rd v), (M_lf v), (M_cd v), (M_rn v), (v9, (M_further (M_ex v)), (M_shotAlarm (M_ex v)), (M_drawn (M_ex v))), (M_im v), (M_al v), (0 : Int32)) (0 : Int32) hc13) yv_X10_turns wd_1568 ⟨rfl, rfl⟩ (by decide) (fr_s (j := 0) rfl rfl rfl (fr_s (j := 1) rfl rfl rfl (fr_s (j := 2) rfl rfl rfl (fr_s (j := 3) rfl rfl rfl (fr_s (j := 4) rfl rfl rfl (fr_s (j := 5) rfl rfl rfl (fr_s (j := 6) rfl rfl rfl (fr_s (j := 7) rfl rfl rfl (fr_s (j := 8) rfl rfl rfl (fr_s (j := 9) rfl rfl rfl (fr_s (j := 10) rfl rfl rfl (fr_s (j := 11) rfl rfl rfl (fr_s (j := 12) rfl rfl rfl (fr_s (j := 13) rfl rfl rfl (fr_s (j := 14) rfl rfl rfl (fr_s (j := 15) rfl rfl rfl (fr_s (j := 16) rfl rfl rfl (fr_s (j := 17) rfl rfl rfl (fr_s (j := 18) rfl rfl rfl (fr_s (j := 19) rfl rfl rfl (fr_s (j := 20) rfl rfl rfl (fr_s (j := 21) rfl rfl rfl (fr_s (j := 22) rfl rfl rfl (fr_s (j := 23) rfl rfl rfl (fr_n))))))))))))))))))))))))) rfl (by decide) 0 rfl rfl rfl (Nat.le_of_ble_eq_true rfl) dX10_next_61 ?_
      refine r_pop (pc := 64) cx dX10_next_64 rfl ?_
      refine r_aload_n (pc := 65) cx dX10_next_65 2 rfl ?_
      refine r_get (pc := 66) cx cf_X10 0 26 rfl (by decide) rfl wd_1342 dX10_next_66 ?_
      refine r_sipush (pc := 69) cx dX10_next_69 sp_221 ?_
      refine r_iald (pc := 72) cx 15 rfl (by decide) dX10_next_72 ?_
      refine r_iload_n (pc := 73) cx dX10_next_73 0 rfl ?_
      obtain ⟨J15, eJ15, hf⟩ := nm_of hf
      have hJ15 : ∀ (y14 : Int32), J15 y14 = some (r_, o_v) → WW p l e rm_M_next s m args below meth c D A 4 0 0 (MQ below (QI D K A r_ (cl_M K q o_v)) args s 0 0 A) ([((q 0), ob 9 [.int (M_thrown v12), .ref (q 1), .int (M_taped (M_tp v12)), .ref (q 2), .ref (q 3), .ref (q 4), .ref (q 5), .ref (q 6), .ref (q 7), .ref (q 8), .ref (q 9), .ref (q 10), .ref (q 11), .ref (q 12), .ref (q 13), .ref (q 14), .int (M_lines (M_rd v12)), .int (M_size (M_rd v12)), .int (M_at (M_rd v12)), .int (M_place (M_rd v12)), .int (M_sort (M_rd v12)), .int (M_value (M_rd v12)), .int (M_fault (M_rd v12)), .int (M_faultPlace (M_rd v12)), .int (M_lastFault (M_lf v12)), .int (M_lastPlace (M_lf v12)), .ref (q 15), .ref (q 16), .ref (q 17), .ref (q 18), .int (M_hasImage (M_im v12)), .int (M_spanNow (M_rn v12)), .ref (q 19), .int (M_placeThen (M_rn v12)), .int (M_alonePlace (M_al v12)), .int (M_aloneSteps (M_al v12)), .int (M_aloneOut (M_al v12)), .ref (q 20), .ref (q 21), .ref (q 22), .ref (q 23), .int (M_shotAlarm (M_ex v12)), .int (M_drawn (M_ex v12))]), ((q 1), aI K 700 (M_tape (M_tp v12))), ((q 2), aI K 20 (M_number (M_cd v12))), ((q 3), aZ K 5 (M_isTold (M_rd v12))), ((q 4), aI K 80 (M_codeSort (M_cd v12))), ((q 5), aI K 80 (M_codeA (M_cd v12))), ((q 6), aI K 80 (M_codeB (M_cd v12))), ((q 7), aI K 80 (M_codeC (M_cd v12))), ((q 8), aI K 80 (M_codeName (M_cd v12))), ((q 9), aI K 80 (M_codePlace (M_cd v12))), ((q 10), aI K 80 (M_codeTo (M_cd v12))), ((q 11), aI K 280 (M_labelName (M_cd v12))), ((q 12), aI K 280 (M_labelAt (M_cd v12))), ((q 13), aI K 64 (M_data (M_cd v12))), ((q 14), aZ K 32 (M_hasData (M_rd v12))), ((q 15), aI K 314 (M_s (M_rn v12))), ((q 16), aI K 314 (M_aside (M_ex v12))), ((q 17), aI K 314 (M_further (M_ex v12))), ((q 18), aI K 314 (M_image (M_im v12))), ((q 19), aI K 3 (M_sizeNow (M_rn v12))), ((q 20), aI K 8 (M_aloneRegister (M_al v12))), ((q 21), aI K 4 (M_aloneReal (M_al v12))), ((q 22), aI K 32 (M_aloneMemory (M_al v12))), ((q 23), aI K 999 (M_aloneOutput (M_al v12)))]) ([(0, .ref (q 0))]) ([.int y14]) 92 := by
        intro y14 hf
        rw [eJ15] at hf
        refine r_istore_n (pc := 92) (loc' := [(3, .int y14), (0, .ref (q 0))]) cx dX10_next_92 rfl (by decide) rfl ?_
        refine r_aload_n (pc := 93) cx dX10_next_93 1 rfl ?_
        refine r_get (pc := 94) cx cf_X10 0 27 rfl (by decide) rfl wd_1343 dX10_next_94 ?_
        refine r_aload_n (pc := 97) cx dX10_next_97 1 rfl ?_
        refine r_get (pc := 98) cx cf_X10 0 26 rfl (by decide) rfl wd_1342 dX10_next_98 ?_
        obtain ⟨v16, hc17, hf⟩ := bd_of hf
        refine r_Sv (pc := 101) (ws' := [((q 0), ob 9 [.int (M_thrown v12), .ref (q 1), .int (M_taped (M_tp v12)), .ref (q 2), .ref (q 3), .ref (q 4), .ref (q 5), .ref (q 6), .ref (q 7), .ref (q 8), .ref (q 9), .ref (q 10), .ref (q 11), .ref (q 12), .ref (q 13), .ref (q 14), .int (M_lines (M_rd v12)), .int (M_size (M_rd v12)), .int (M_at (M_rd v12)), .int (M_place (M_rd v12)), .int (M_sort (M_rd v12)), .int (M_value (M_rd v12)), .int (M_fault (M_rd v12)), .int (M_faultPlace (M_rd v12)), .int (M_lastFault (M_lf v12)), .int (M_lastPlace (M_lf v12)), .ref (q 15), .ref (q 16), .ref (q 17), .ref (q 18), .int (M_hasImage (M_im v12)), .int (M_spanNow (M_rn v12)), .ref (q 19), .int (M_placeThen (M_rn v12)), .int (M_alonePlace (M_al v12)), .int (M_aloneSteps (M_al v12)), .int (M_aloneOut (M_al v12)), .ref (q 20), .ref (q 21), .ref (q 22), .ref (q 23), .int (M_shotAlarm (M_ex v12)), .int (M_drawn (M_ex v12))]), ((q 1), aI K 700 (M_tape (M_tp v12))), ((q 2), aI K 20 (M_number (M_cd v12))), ((q 3), aZ K 5 (M_isTold (M_rd v12))), ((q 4), aI K 80 (M_codeSort (M_cd v12))), ((q 5), aI K 80 (M_codeA (M_cd v12))), ((q 6), aI K 80 (M_codeB (M_cd v12))), ((q 7), aI K 80 (M_codeC (M_cd v12))), ((q 8), aI K 80 (M_codeName (M_cd v12))), ((q 9), aI K 80 (M_codePlace (M_cd v12))), ((q 10), aI K 80 (M_codeTo (M_cd v12))), ((q 11), aI K 280 (M_labelName (M_cd v12))), ((q 12), aI K 280 (M_labelAt (M_cd v12))), ((q 13), aI K 64 (M_data (M_cd v12))), ((q 14), aZ K 32 (M_hasData (M_rd v12))), ((q 15), aI K 314 v16), ((q 16), aI K 314 (M_aside (M_ex v12))), ((q 17), aI K 314 (M_further (M_ex v12))), ((q 18), aI K 314 (M_image (M_im v12))), ((q 19), aI K 3 (M_sizeNow (M_rn v12))), ((q 20), aI K 8 (M_aloneRegister (M_al v12))), ((q 21), aI K 4 (M_aloneReal (M_al v12))), ((q 22), aI K 32 (M_aloneMemory (M_al v12))), ((q 23), aI K 999 (M_aloneOutput (M_al v12)))]) (nn := 2) cx [.ref (q 16), .ref (q 15)] [] (m_M_copies l D K (fun i => q (i + 16)) (M_aside (M_ex v12)) (fun i => q (i + 15)) (M_s (M_rn v12)) hc17) ys_X10_copies wd_1764 ⟨rfl, rfl⟩ (by decide) (fr_k (fr_k (fr_k (fr_k (fr_k (fr_k (fr_k (fr_k (fr_k (fr_k (fr_k (fr_k (fr_k (fr_k (fr_k (fr_s (j := 1) rfl rfl rfl (fr_s (j := 0) rfl rfl rfl (fr_k (fr_k (fr_k (fr_k (fr_k (fr_k (fr_k (fr_n))))))))))))))))))))))))) rfl (by decide) rfl (Nat.le_of_ble_eq_true rfl) dX10_next_101 ?_
        refine r_iload_n (pc := 104) cx dX10_next_104 0 rfl ?_
        cases hf
        exact r_iret (pc := 105) cx rfl rfl dX10_next_105
      refine r_icmp_le (pc := 74) (tgt := 91) cx dX10_next_74 (by decide) (fun h18 => ?_) (fun h18 => ?_)
      · have hf := ifp h18 hf
        refine r_iload_n (pc := 91) cx dX10_next_91 1 rfl ?_
        refine r_loc (loc' := [(0, .ref (q 0))]) [2] rfl ?_
        exact hJ15 _ hf
      · have hf := ifn h18 hf
        refine r_bipush (pc := 77) cx dX10_next_77 bp_10 ?_
        refine r_aload_n (pc := 79) cx dX10_next_79 2 rfl ?_
        refine r_get (pc := 80) cx cf_X10 0 26 rfl (by decide) rfl wd_1342 dX10_next_80 ?_
        refine r_sipush (pc := 83) cx dX10_next_83 sp_233 ?_
        refine r_iald (pc := 86) cx 15 rfl (by decide) dX10_next_86 ?_
        refine r_iadd (pc := 87) cx dX10_next_87 ?_
        refine r_goto (pc := 88) (tgt := 92) cx dX10_next_88 (by decide) ?_
        refine r_loc (loc' := [(0, .ref (q 0))]) [2] rfl ?_
        exact hJ15 _ hf
    refine r_if_ne (pc := 19) (tgt := 26) cx dX10_next_19 (by decide) (fun h19 => ?_) (fun h19 => ?_)
    · have hf := ifn h19 hf
      refine r_aload_n (pc := 26) cx dX10_next_26 0 rfl ?_
      obtain ⟨r20, hc21, hf⟩ := bd_of hf
      refine r_Vi (pc := 27) (ws' := [((q 0), ob 9 [.int (0 : Int32), .ref (q 1), .int (M_taped (M_tp v)), .ref (q 2), .ref (q 3), .ref (q 4), .ref (q 5), .ref (q 6), .ref (q 7), .ref (q 8), .ref (q 9), .ref (q 10), .ref (q 11), .ref (q 12), .ref (q 13), .ref (q 14), .int (M_lines (M_rd v)), .int (M_size (M_rd v)), .int (M_at (M_rd v)), .int (M_place (M_rd v)), .int (M_sort (M_rd v)), .int (M_value (M_rd v)), .int (M_fault (M_rd v)), .int (M_faultPlace (M_rd v)), .int (M_lastFault (M_lf v)), .int (M_lastPlace (M_lf v)), .ref (q 15), .ref (q 16), .ref (q 17), .ref (q 18), .int (M_hasImage (M_im v)), .int (M_spanNow (M_rn v)), .ref (q 19), .int (M_placeThen (M_rn v)), .int (M_alonePlace (M_al v)), .int (M_aloneSteps (M_al v)), .int (M_aloneOut (M_al v)), .ref (q 20), .ref (q 21), .ref (q 22), .ref (q 23), .int (M_shotAlarm (M_ex v)), .int (M_drawn (M_ex v))]), ((q 1), aI K 700 (M_tape (M_tp v))), ((q 2), aI K 20 (M_number (M_cd v))), ((q 3), aZ K 5 (M_isTold (M_rd v))), ((q 4), aI K 80 (M_codeSort (M_cd v))), ((q 5), aI K 80 (M_codeA (M_cd v))), ((q 6), aI K 80 (M_codeB (M_cd v))), ((q 7), aI K 80 (M_codeC (M_cd v))), ((q 8), aI K 80 (M_codeName (M_cd v))), ((q 9), aI K 80 (M_codePlace (M_cd v))), ((q 10), aI K 80 (M_codeTo (M_cd v))), ((q 11), aI K 280 (M_labelName (M_cd v))), ((q 12), aI K 280 (M_labelAt (M_cd v))), ((q 13), aI K 64 (M_data (M_cd v))), ((q 14), aZ K 32 (M_hasData (M_rd v))), ((q 15), aI K 314 (M_s (M_rn v))), ((q 16), aI K 314 (M_aside (M_ex v))), ((q 17), aI K 314 (M_further (M_ex v))), ((q 18), aI K 314 (M_image (M_im v))), ((q 19), aI K 3 (M_sizeNow (M_rn v))), ((q 20), aI K 8 (M_aloneRegister (M_al v))), ((q 21), aI K 4 (M_aloneReal (M_al v))), ((q 22), aI K 32 (M_aloneMemory (M_al v))), ((q 23), aI K 999 (M_aloneOutput (M_al v)))]) (nn := 24) cx [] [] (m_M_leaderWhy l D K q ((M_tp v), (M_rd v), (M_lf v), (M_cd v), (M_rn v), (M_ex v), (M_im v), (M_al v), (0 : Int32)) hc21) yv_X10_leaderWhy wd_1592 ⟨rfl, rfl⟩ (by decide) (fr_s (j := 0) rfl rfl rfl (fr_s (j := 1) rfl rfl rfl (fr_s (j := 2) rfl rfl rfl (fr_s (j := 3) rfl rfl rfl (fr_s (j := 4) rfl rfl rfl (fr_s (j := 5) rfl rfl rfl (fr_s (j := 6) rfl rfl rfl (fr_s (j := 7) rfl rfl rfl (fr_s (j := 8) rfl rfl rfl (fr_s (j := 9) rfl rfl rfl (fr_s (j := 10) rfl rfl rfl (fr_s (j := 11) rfl rfl rfl (fr_s (j := 12) rfl rfl rfl (fr_s (j := 13) rfl rfl rfl (fr_s (j := 14) rfl rfl rfl (fr_s (j := 15) rfl rfl rfl (fr_s (j := 16) rfl rfl rfl (fr_s (j := 17) rfl rfl rfl (fr_s (j := 18) rfl rfl rfl (fr_s (j := 19) rfl rfl rfl (fr_s (j := 20) rfl rfl rfl (fr_s (j := 21) rfl rfl rfl (fr_s (j := 22) rfl rfl rfl (fr_s (j := 23) rfl rfl rfl (fr_n))))))))))))))))))))))))) rfl (by decide) 0 rfl rfl rfl (Nat.le_of_ble_eq_true rfl) dX10_next_27 ?_
      refine r_if_ne (pc := 30) (tgt := 37) cx dX10_next_30 (by decide) (fun h22 => ?_) (fun h22 => ?_)
      · have hf := ifn h22 hf
        refine r_iconst (pc := 37) cx dX10_next_37 ic_2 ?_
        exact hJ7 _ hf
      · have hf := ifp h22 hf
        refine r_iconst (pc := 33) cx dX10_next_33 ic_1 ?_
        refine r_goto (pc := 34) (tgt := 38) cx dX10_next_34 (by decide) ?_
        exact hJ7 _ hf
    · have hf := ifp h19 hf
      refine r_iconst (pc := 22) cx dX10_next_22 ic_0 ?_
      refine r_goto (pc := 23) (tgt := 38) cx dX10_next_23 (by decide) ?_
      exact hJ7 _ hf
  · have hf := ifn h3 hf
    refine r_bipush (pc := 12) cx dX10_next_12 bp_m2 ?_
    cases hf
    exact r_iret (pc := 14) cx rfl rfl dX10_next_14
theorem yv_X10_next : YV yX10_next cX10_next 4 (some .int) 0 := ⟨⟨by decide +kernel, by decide +kernel, by decide +kernel⟩, wd_1763, wd_102, wd_1761, wd_1762⟩
