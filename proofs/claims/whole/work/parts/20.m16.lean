def f_M_keep (v : T_M) : Option (Int32 × T_M) :=
  (bd (f_M_copies (M_s (M_rn v)) (M_image (M_im v))) fun (v1 : (Nat → Int32)) => (some (((M_s (M_rn v)) (219 : Int32).toNatClampNeg), ((M_tp v), (M_rd v), (M_lf v), (M_cd v), (M_rn v), (M_ex v), (v1, (1 : Int32)), (M_al v), (0 : Int32)))))
abbrev rm_M_keep : Room := { frames := 1, cells := 0, slots := 0, locals := 22 }
set_option maxRecDepth 100000 in
set_option maxHeartbeats 4000000 in
theorem m_M_keep (l : Launch) (D : va_G) (K : Nat → ClassId) (q : Nat → Nat) (v : T_M) {r_ : Int32} {o_v : T_M} (hf : f_M_keep v = some (r_, o_v)) : MI l yX10_keep cX10_keep 1 (some .int) rm_M_keep D K [.ref (q 0)] (cl_M K q v) r_ (cl_M K q o_v) := by
  refine MI_of (loc0 := [(0, .ref (q 0))]) (by decide +kernel) rfl (Nat.le_of_ble_eq_true rfl) ?_
  intro p e s m args below meth c A cx
  unfold f_M_keep at hf
  refine r_ws (ws' := [((q 0), ob 9 [.int (M_thrown v), .ref (q 1), .int (M_taped (M_tp v)), .ref (q 2), .ref (q 3), .ref (q 4), .ref (q 5), .ref (q 6), .ref (q 7), .ref (q 8), .ref (q 9), .ref (q 10), .ref (q 11), .ref (q 12), .ref (q 13), .ref (q 14), .int (M_lines (M_rd v)), .int (M_size (M_rd v)), .int (M_at (M_rd v)), .int (M_place (M_rd v)), .int (M_sort (M_rd v)), .int (M_value (M_rd v)), .int (M_fault (M_rd v)), .int (M_faultPlace (M_rd v)), .int (M_lastFault (M_lf v)), .int (M_lastPlace (M_lf v)), .ref (q 15), .ref (q 16), .ref (q 17), .ref (q 18), .int (M_hasImage (M_im v)), .int (M_spanNow (M_rn v)), .ref (q 19), .int (M_placeThen (M_rn v)), .int (M_alonePlace (M_al v)), .int (M_aloneSteps (M_al v)), .int (M_aloneOut (M_al v)), .ref (q 20), .ref (q 21), .ref (q 22), .ref (q 23), .int (M_shotAlarm (M_ex v)), .int (M_drawn (M_ex v))]), ((q 1), aI K 700 (M_tape (M_tp v))), ((q 2), aI K 20 (M_number (M_cd v))), ((q 3), aZ K 5 (M_isTold (M_rd v))), ((q 4), aI K 80 (M_codeSort (M_cd v))), ((q 5), aI K 80 (M_codeA (M_cd v))), ((q 6), aI K 80 (M_codeB (M_cd v))), ((q 7), aI K 80 (M_codeC (M_cd v))), ((q 8), aI K 80 (M_codeName (M_cd v))), ((q 9), aI K 80 (M_codePlace (M_cd v))), ((q 10), aI K 80 (M_codeTo (M_cd v))), ((q 11), aI K 280 (M_labelName (M_cd v))), ((q 12), aI K 280 (M_labelAt (M_cd v))), ((q 13), aI K 64 (M_data (M_cd v))), ((q 14), aZ K 32 (M_hasData (M_rd v))), ((q 15), aI K 314 (M_s (M_rn v))), ((q 16), aI K 314 (M_aside (M_ex v))), ((q 17), aI K 314 (M_further (M_ex v))), ((q 18), aI K 314 (M_image (M_im v))), ((q 19), aI K 3 (M_sizeNow (M_rn v))), ((q 20), aI K 8 (M_aloneRegister (M_al v))), ((q 21), aI K 4 (M_aloneReal (M_al v))), ((q 22), aI K 32 (M_aloneMemory (M_al v))), ((q 23), aI K 999 (M_aloneOutput (M_al v)))]) rfl ?_
  refine r_aload_n (pc := 0) cx dX10_keep_0 0 rfl ?_
  refine r_iconst (pc := 1) cx dX10_keep_1 ic_0 ?_
  refine r_putI (pc := 2) (ws' := [((q 0), ob 9 [.int (0 : Int32), .ref (q 1), .int (M_taped (M_tp v)), .ref (q 2), .ref (q 3), .ref (q 4), .ref (q 5), .ref (q 6), .ref (q 7), .ref (q 8), .ref (q 9), .ref (q 10), .ref (q 11), .ref (q 12), .ref (q 13), .ref (q 14), .int (M_lines (M_rd v)), .int (M_size (M_rd v)), .int (M_at (M_rd v)), .int (M_place (M_rd v)), .int (M_sort (M_rd v)), .int (M_value (M_rd v)), .int (M_fault (M_rd v)), .int (M_faultPlace (M_rd v)), .int (M_lastFault (M_lf v)), .int (M_lastPlace (M_lf v)), .ref (q 15), .ref (q 16), .ref (q 17), .ref (q 18), .int (M_hasImage (M_im v)), .int (M_spanNow (M_rn v)), .ref (q 19), .int (M_placeThen (M_rn v)), .int (M_alonePlace (M_al v)), .int (M_aloneSteps (M_al v)), .int (M_aloneOut (M_al v)), .ref (q 20), .ref (q 21), .ref (q 22), .ref (q 23), .int (M_shotAlarm (M_ex v)), .int (M_drawn (M_ex v))]), ((q 1), aI K 700 (M_tape (M_tp v))), ((q 2), aI K 20 (M_number (M_cd v))), ((q 3), aZ K 5 (M_isTold (M_rd v))), ((q 4), aI K 80 (M_codeSort (M_cd v))), ((q 5), aI K 80 (M_codeA (M_cd v))), ((q 6), aI K 80 (M_codeB (M_cd v))), ((q 7), aI K 80 (M_codeC (M_cd v))), ((q 8), aI K 80 (M_codeName (M_cd v))), ((q 9), aI K 80 (M_codePlace (M_cd v))), ((q 10), aI K 80 (M_codeTo (M_cd v))), ((q 11), aI K 280 (M_labelName (M_cd v))), ((q 12), aI K 280 (M_labelAt (M_cd v))), ((q 13), aI K 64 (M_data (M_cd v))), ((q 14), aZ K 32 (M_hasData (M_rd v))), ((q 15), aI K 314 (M_s (M_rn v))), ((q 16), aI K 314 (M_aside (M_ex v))), ((q 17), aI K 314 (M_further (M_ex v))), ((q 18), aI K 314 (M_image (M_im v))), ((q 19), aI K 3 (M_sizeNow (M_rn v))), ((q 20), aI K 8 (M_aloneRegister (M_al v))), ((q 21), aI K 4 (M_aloneReal (M_al v))), ((q 22), aI K 32 (M_aloneMemory (M_al v))), ((q 23), aI K 999 (M_aloneOutput (M_al v)))]) cx cf_X10 0 0 rfl (by decide) (Nat.le_of_ble_eq_true rfl) rfl pfd_I wd_1316 dX10_keep_2 rfl ?_
  refine r_aload_n (pc := 5) cx dX10_keep_5 0 rfl ?_
  refine r_get (pc := 6) cx cf_X10 0 26 rfl (by decide) rfl wd_1342 dX10_keep_6 ?_
  refine r_aload_n (pc := 9) cx dX10_keep_9 0 rfl ?_
  refine r_get (pc := 10) cx cf_X10 0 29 rfl (by decide) rfl wd_1345 dX10_keep_10 ?_
  obtain ⟨v1, hc2, hf⟩ := bd_of hf
  refine r_Sv (pc := 13) (ws' := [((q 0), ob 9 [.int (0 : Int32), .ref (q 1), .int (M_taped (M_tp v)), .ref (q 2), .ref (q 3), .ref (q 4), .ref (q 5), .ref (q 6), .ref (q 7), .ref (q 8), .ref (q 9), .ref (q 10), .ref (q 11), .ref (q 12), .ref (q 13), .ref (q 14), .int (M_lines (M_rd v)), .int (M_size (M_rd v)), .int (M_at (M_rd v)), .int (M_place (M_rd v)), .int (M_sort (M_rd v)), .int (M_value (M_rd v)), .int (M_fault (M_rd v)), .int (M_faultPlace (M_rd v)), .int (M_lastFault (M_lf v)), .int (M_lastPlace (M_lf v)), .ref (q 15), .ref (q 16), .ref (q 17), .ref (q 18), .int (M_hasImage (M_im v)), .int (M_spanNow (M_rn v)), .ref (q 19), .int (M_placeThen (M_rn v)), .int (M_alonePlace (M_al v)), .int (M_aloneSteps (M_al v)), .int (M_aloneOut (M_al v)), .ref (q 20), .ref (q 21), .ref (q 22), .ref (q 23), .int (M_shotAlarm (M_ex v)), .int (M_drawn (M_ex v))]), ((q 1), aI K 700 (M_tape (M_tp v))), ((q 2), aI K 20 (M_number (M_cd v))), ((q 3), aZ K 5 (M_isTold (M_rd v))), ((q 4), aI K 80 (M_codeSort (M_cd v))), ((q 5), aI K 80 (M_codeA (M_cd v))), ((q 6), aI K 80 (M_codeB (M_cd v))), ((q 7), aI K 80 (M_codeC (M_cd v))), ((q 8), aI K 80 (M_codeName (M_cd v))), ((q 9), aI K 80 (M_codePlace (M_cd v))), ((q 10), aI K 80 (M_codeTo (M_cd v))), ((q 11), aI K 280 (M_labelName (M_cd v))), ((q 12), aI K 280 (M_labelAt (M_cd v))), ((q 13), aI K 64 (M_data (M_cd v))), ((q 14), aZ K 32 (M_hasData (M_rd v))), ((q 15), aI K 314 (M_s (M_rn v))), ((q 16), aI K 314 (M_aside (M_ex v))), ((q 17), aI K 314 (M_further (M_ex v))), ((q 18), aI K 314 v1), ((q 19), aI K 3 (M_sizeNow (M_rn v))), ((q 20), aI K 8 (M_aloneRegister (M_al v))), ((q 21), aI K 4 (M_aloneReal (M_al v))), ((q 22), aI K 32 (M_aloneMemory (M_al v))), ((q 23), aI K 999 (M_aloneOutput (M_al v)))]) (nn := 2) cx [.ref (q 15), .ref (q 18)] [] (m_M_copies l D K (fun i => q (i + 15)) (M_s (M_rn v)) (fun i => q (i + 18)) (M_image (M_im v)) hc2) ys_X10_copies wd_1764 ⟨rfl, rfl⟩ (by decide) (fr_k (fr_k (fr_k (fr_k (fr_k (fr_k (fr_k (fr_k (fr_k (fr_k (fr_k (fr_k (fr_k (fr_k (fr_k (fr_s (j := 0) rfl rfl rfl (fr_k (fr_k (fr_s (j := 1) rfl rfl rfl (fr_k (fr_k (fr_k (fr_k (fr_k (fr_n))))))))))))))))))))))))) rfl (by decide) rfl (Nat.le_of_ble_eq_true rfl) dX10_keep_13 ?_
  refine r_aload_n (pc := 16) cx dX10_keep_16 0 rfl ?_
  refine r_iconst (pc := 17) cx dX10_keep_17 ic_1 ?_
  refine r_putZ (pc := 18) (ws' := [((q 0), ob 9 [.int (0 : Int32), .ref (q 1), .int (M_taped (M_tp v)), .ref (q 2), .ref (q 3), .ref (q 4), .ref (q 5), .ref (q 6), .ref (q 7), .ref (q 8), .ref (q 9), .ref (q 10), .ref (q 11), .ref (q 12), .ref (q 13), .ref (q 14), .int (M_lines (M_rd v)), .int (M_size (M_rd v)), .int (M_at (M_rd v)), .int (M_place (M_rd v)), .int (M_sort (M_rd v)), .int (M_value (M_rd v)), .int (M_fault (M_rd v)), .int (M_faultPlace (M_rd v)), .int (M_lastFault (M_lf v)), .int (M_lastPlace (M_lf v)), .ref (q 15), .ref (q 16), .ref (q 17), .ref (q 18), .int (1 : Int32), .int (M_spanNow (M_rn v)), .ref (q 19), .int (M_placeThen (M_rn v)), .int (M_alonePlace (M_al v)), .int (M_aloneSteps (M_al v)), .int (M_aloneOut (M_al v)), .ref (q 20), .ref (q 21), .ref (q 22), .ref (q 23), .int (M_shotAlarm (M_ex v)), .int (M_drawn (M_ex v))]), ((q 1), aI K 700 (M_tape (M_tp v))), ((q 2), aI K 20 (M_number (M_cd v))), ((q 3), aZ K 5 (M_isTold (M_rd v))), ((q 4), aI K 80 (M_codeSort (M_cd v))), ((q 5), aI K 80 (M_codeA (M_cd v))), ((q 6), aI K 80 (M_codeB (M_cd v))), ((q 7), aI K 80 (M_codeC (M_cd v))), ((q 8), aI K 80 (M_codeName (M_cd v))), ((q 9), aI K 80 (M_codePlace (M_cd v))), ((q 10), aI K 80 (M_codeTo (M_cd v))), ((q 11), aI K 280 (M_labelName (M_cd v))), ((q 12), aI K 280 (M_labelAt (M_cd v))), ((q 13), aI K 64 (M_data (M_cd v))), ((q 14), aZ K 32 (M_hasData (M_rd v))), ((q 15), aI K 314 (M_s (M_rn v))), ((q 16), aI K 314 (M_aside (M_ex v))), ((q 17), aI K 314 (M_further (M_ex v))), ((q 18), aI K 314 v1), ((q 19), aI K 3 (M_sizeNow (M_rn v))), ((q 20), aI K 8 (M_aloneRegister (M_al v))), ((q 21), aI K 4 (M_aloneReal (M_al v))), ((q 22), aI K 32 (M_aloneMemory (M_al v))), ((q 23), aI K 999 (M_aloneOutput (M_al v)))]) cx cf_X10 0 30 rfl (by decide) (Nat.le_of_ble_eq_true rfl) (Or.inr rfl) rfl pfd_Z wd_1346 dX10_keep_18 rfl ?_
  refine r_aload_n (pc := 21) cx dX10_keep_21 0 rfl ?_
  refine r_get (pc := 22) cx cf_X10 0 26 rfl (by decide) rfl wd_1342 dX10_keep_22 ?_
  refine r_sipush (pc := 25) cx dX10_keep_25 sp_219 ?_
  refine r_iald (pc := 28) cx 15 rfl (by decide) dX10_keep_28 ?_
  cases hf
  exact r_iret (pc := 29) cx rfl rfl dX10_keep_29
theorem yv_X10_keep : YV yX10_keep cX10_keep 1 (some .int) 0 := ⟨⟨by decide +kernel, by decide +kernel, by decide +kernel⟩, wd_1868, wd_102, wd_1866, wd_1867⟩
def f_M_back (v : T_M) : Option (Int32 × T_M) :=
  (if (M_hasImage (M_im v)) = (0 : Int32) then (some ((-1 : Int32), ((M_tp v), (M_rd v), (M_lf v), (M_cd v), (M_rn v), (M_ex v), (M_im v), (M_al v), (0 : Int32)))) else (bd (f_M_copies (M_image (M_im v)) (M_s (M_rn v))) fun (v2 : (Nat → Int32)) => (some ((v2 (219 : Int32).toNatClampNeg), ((M_tp v), (M_rd v), (M_lf v), (M_cd v), (v2, (M_spanNow (M_rn v)), (M_sizeNow (M_rn v)), (M_placeThen (M_rn v))), (M_ex v), (M_im v), (M_al v), (0 : Int32))))))
abbrev rm_M_back : Room := { frames := 1, cells := 0, slots := 0, locals := 22 }
set_option maxRecDepth 100000 in
set_option maxHeartbeats 4000000 in
theorem m_M_back (l : Launch) (D : va_G) (K : Nat → ClassId) (q : Nat → Nat) (v : T_M) {r_ : Int32} {o_v : T_M} (hf : f_M_back v = some (r_, o_v)) : MI l yX10_back cX10_back 1 (some .int) rm_M_back D K [.ref (q 0)] (cl_M K q v) r_ (cl_M K q o_v) := by
  refine MI_of (loc0 := [(0, .ref (q 0))]) (by decide +kernel) rfl (Nat.le_of_ble_eq_true rfl) ?_
  intro p e s m args below meth c A cx
  unfold f_M_back at hf
  refine r_ws (ws' := [((q 0), ob 9 [.int (M_thrown v), .ref (q 1), .int (M_taped (M_tp v)), .ref (q 2), .ref (q 3), .ref (q 4), .ref (q 5), .ref (q 6), .ref (q 7), .ref (q 8), .ref (q 9), .ref (q 10), .ref (q 11), .ref (q 12), .ref (q 13), .ref (q 14), .int (M_lines (M_rd v)), .int (M_size (M_rd v)), .int (M_at (M_rd v)), .int (M_place (M_rd v)), .int (M_sort (M_rd v)), .int (M_value (M_rd v)), .int (M_fault (M_rd v)), .int (M_faultPlace (M_rd v)), .int (M_lastFault (M_lf v)), .int (M_lastPlace (M_lf v)), .ref (q 15), .ref (q 16), .ref (q 17), .ref (q 18), .int (M_hasImage (M_im v)), .int (M_spanNow (M_rn v)), .ref (q 19), .int (M_placeThen (M_rn v)), .int (M_alonePlace (M_al v)), .int (M_aloneSteps (M_al v)), .int (M_aloneOut (M_al v)), .ref (q 20), .ref (q 21), .ref (q 22), .ref (q 23), .int (M_shotAlarm (M_ex v)), .int (M_drawn (M_ex v))]), ((q 1), aI K 700 (M_tape (M_tp v))), ((q 2), aI K 20 (M_number (M_cd v))), ((q 3), aZ K 5 (M_isTold (M_rd v))), ((q 4), aI K 80 (M_codeSort (M_cd v))), ((q 5), aI K 80 (M_codeA (M_cd v))), ((q 6), aI K 80 (M_codeB (M_cd v))), ((q 7), aI K 80 (M_codeC (M_cd v))), ((q 8), aI K 80 (M_codeName (M_cd v))), ((q 9), aI K 80 (M_codePlace (M_cd v))), ((q 10), aI K 80 (M_codeTo (M_cd v))), ((q 11), aI K 280 (M_labelName (M_cd v))), ((q 12), aI K 280 (M_labelAt (M_cd v))), ((q 13), aI K 64 (M_data (M_cd v))), ((q 14), aZ K 32 (M_hasData (M_rd v))), ((q 15), aI K 314 (M_s (M_rn v))), ((q 16), aI K 314 (M_aside (M_ex v))), ((q 17), aI K 314 (M_further (M_ex v))), ((q 18), aI K 314 (M_image (M_im v))), ((q 19), aI K 3 (M_sizeNow (M_rn v))), ((q 20), aI K 8 (M_aloneRegister (M_al v))), ((q 21), aI K 4 (M_aloneReal (M_al v))), ((q 22), aI K 32 (M_aloneMemory (M_al v))), ((q 23), aI K 999 (M_aloneOutput (M_al v)))]) rfl ?_
  refine r_aload_n (pc := 0) cx dX10_back_0 0 rfl ?_
  refine r_iconst (pc := 1) cx dX10_back_1 ic_0 ?_
  refine r_putI (pc := 2) (ws' := [((q 0), ob 9 [.int (0 : Int32), .ref (q 1), .int (M_taped (M_tp v)), .ref (q 2), .ref (q 3), .ref (q 4), .ref (q 5), .ref (q 6), .ref (q 7), .ref (q 8), .ref (q 9), .ref (q 10), .ref (q 11), .ref (q 12), .ref (q 13), .ref (q 14), .int (M_lines (M_rd v)), .int (M_size (M_rd v)), .int (M_at (M_rd v)), .int (M_place (M_rd v)), .int (M_sort (M_rd v)), .int (M_value (M_rd v)), .int (M_fault (M_rd v)), .int (M_faultPlace (M_rd v)), .int (M_lastFault (M_lf v)), .int (M_lastPlace (M_lf v)), .ref (q 15), .ref (q 16), .ref (q 17), .ref (q 18), .int (M_hasImage (M_im v)), .int (M_spanNow (M_rn v)), .ref (q 19), .int (M_placeThen (M_rn v)), .int (M_alonePlace (M_al v)), .int (M_aloneSteps (M_al v)), .int (M_aloneOut (M_al v)), .ref (q 20), .ref (q 21), .ref (q 22), .ref (q 23), .int (M_shotAlarm (M_ex v)), .int (M_drawn (M_ex v))]), ((q 1), aI K 700 (M_tape (M_tp v))), ((q 2), aI K 20 (M_number (M_cd v))), ((q 3), aZ K 5 (M_isTold (M_rd v))), ((q 4), aI K 80 (M_codeSort (M_cd v))), ((q 5), aI K 80 (M_codeA (M_cd v))), ((q 6), aI K 80 (M_codeB (M_cd v))), ((q 7), aI K 80 (M_codeC (M_cd v))), ((q 8), aI K 80 (M_codeName (M_cd v))), ((q 9), aI K 80 (M_codePlace (M_cd v))), ((q 10), aI K 80 (M_codeTo (M_cd v))), ((q 11), aI K 280 (M_labelName (M_cd v))), ((q 12), aI K 280 (M_labelAt (M_cd v))), ((q 13), aI K 64 (M_data (M_cd v))), ((q 14), aZ K 32 (M_hasData (M_rd v))), ((q 15), aI K 314 (M_s (M_rn v))), ((q 16), aI K 314 (M_aside (M_ex v))), ((q 17), aI K 314 (M_further (M_ex v))), ((q 18), aI K 314 (M_image (M_im v))), ((q 19), aI K 3 (M_sizeNow (M_rn v))), ((q 20), aI K 8 (M_aloneRegister (M_al v))), ((q 21), aI K 4 (M_aloneReal (M_al v))), ((q 22), aI K 32 (M_aloneMemory (M_al v))), ((q 23), aI K 999 (M_aloneOutput (M_al v)))]) cx cf_X10 0 0 rfl (by decide) (Nat.le_of_ble_eq_true rfl) rfl pfd_I wd_1316 dX10_back_2 rfl ?_
  refine r_aload_n (pc := 5) cx dX10_back_5 0 rfl ?_
  refine r_get (pc := 6) cx cf_X10 0 30 rfl (by decide) rfl wd_1346 dX10_back_6 ?_
  refine r_if_ne (pc := 9) (tgt := 14) cx dX10_back_9 (by decide) (fun h1 => ?_) (fun h1 => ?_)
  · have hf := ifn h1 hf
    refine r_aload_n (pc := 14) cx dX10_back_14 0 rfl ?_
    refine r_get (pc := 15) cx cf_X10 0 29 rfl (by decide) rfl wd_1345 dX10_back_15 ?_
    refine r_aload_n (pc := 18) cx dX10_back_18 0 rfl ?_
    refine r_get (pc := 19) cx cf_X10 0 26 rfl (by decide) rfl wd_1342 dX10_back_19 ?_
    obtain ⟨v2, hc3, hf⟩ := bd_of hf
    refine r_Sv (pc := 22) (ws' := [((q 0), ob 9 [.int (0 : Int32), .ref (q 1), .int (M_taped (M_tp v)), .ref (q 2), .ref (q 3), .ref (q 4), .ref (q 5), .ref (q 6), .ref (q 7), .ref (q 8), .ref (q 9), .ref (q 10), .ref (q 11), .ref (q 12), .ref (q 13), .ref (q 14), .int (M_lines (M_rd v)), .int (M_size (M_rd v)), .int (M_at (M_rd v)), .int (M_place (M_rd v)), .int (M_sort (M_rd v)), .int (M_value (M_rd v)), .int (M_fault (M_rd v)), .int (M_faultPlace (M_rd v)), .int (M_lastFault (M_lf v)), .int (M_lastPlace (M_lf v)), .ref (q 15), .ref (q 16), .ref (q 17), .ref (q 18), .int (M_hasImage (M_im v)), .int (M_spanNow (M_rn v)), .ref (q 19), .int (M_placeThen (M_rn v)), .int (M_alonePlace (M_al v)), .int (M_aloneSteps (M_al v)), .int (M_aloneOut (M_al v)), .ref (q 20), .ref (q 21), .ref (q 22), .ref (q 23), .int (M_shotAlarm (M_ex v)), .int (M_drawn (M_ex v))]), ((q 1), aI K 700 (M_tape (M_tp v))), ((q 2), aI K 20 (M_number (M_cd v))), ((q 3), aZ K 5 (M_isTold (M_rd v))), ((q 4), aI K 80 (M_codeSort (M_cd v))), ((q 5), aI K 80 (M_codeA (M_cd v))), ((q 6), aI K 80 (M_codeB (M_cd v))), ((q 7), aI K 80 (M_codeC (M_cd v))), ((q 8), aI K 80 (M_codeName (M_cd v))), ((q 9), aI K 80 (M_codePlace (M_cd v))), ((q 10), aI K 80 (M_codeTo (M_cd v))), ((q 11), aI K 280 (M_labelName (M_cd v))), ((q 12), aI K 280 (M_labelAt (M_cd v))), ((q 13), aI K 64 (M_data (M_cd v))), ((q 14), aZ K 32 (M_hasData (M_rd v))), ((q 15), aI K 314 v2), ((q 16), aI K 314 (M_aside (M_ex v))), ((q 17), aI K 314 (M_further (M_ex v))), ((q 18), aI K 314 (M_image (M_im v))), ((q 19), aI K 3 (M_sizeNow (M_rn v))), ((q 20), aI K 8 (M_aloneRegister (M_al v))), ((q 21), aI K 4 (M_aloneReal (M_al v))), ((q 22), aI K 32 (M_aloneMemory (M_al v))), ((q 23), aI K 999 (M_aloneOutput (M_al v)))]) (nn := 2) cx [.ref (q 18), .ref (q 15)] [] (m_M_copies l D K (fun i => q (i + 18)) (M_image (M_im v)) (fun i => q (i + 15)) (M_s (M_rn v)) hc3) ys_X10_copies wd_1764 ⟨rfl, rfl⟩ (by decide) (fr_k (fr_k (fr_k (fr_k (fr_k (fr_k (fr_k (fr_k (fr_k (fr_k (fr_k (fr_k (fr_k (fr_k (fr_k (fr_s (j := 1) rfl rfl rfl (fr_k (fr_k (fr_s (j := 0) rfl rfl rfl (fr_k (fr_k (fr_k (fr_k (fr_k (fr_n))))))))))))))))))))))))) rfl (by decide) rfl (Nat.le_of_ble_eq_true rfl) dX10_back_22 ?_
    refine r_aload_n (pc := 25) cx dX10_back_25 0 rfl ?_
    refine r_get (pc := 26) cx cf_X10 0 26 rfl (by decide) rfl wd_1342 dX10_back_26 ?_
    refine r_sipush (pc := 29) cx dX10_back_29 sp_219 ?_
    refine r_iald (pc := 32) cx 15 rfl (by decide) dX10_back_32 ?_
    cases hf
    exact r_iret (pc := 33) cx rfl rfl dX10_back_33
  · have hf := ifp h1 hf
    refine r_iconst (pc := 12) cx dX10_back_12 ic_m1 ?_
    cases hf
    exact r_iret (pc := 13) cx rfl rfl dX10_back_13
theorem yv_X10_back : YV yX10_back cX10_back 1 (some .int) 0 := ⟨⟨by decide +kernel, by decide +kernel, by decide +kernel⟩, wd_1872, wd_102, wd_1870, wd_1871⟩
def f_M_count (v : T_M) (a1 : Int32) : Option (Int32 × T_M) :=
  (if a1 = (0 : Int32) then (some (((M_number (M_cd v)) (8 : Int32).toNatClampNeg), ((M_tp v), (M_rd v), (M_lf v), (M_cd v), (M_rn v), (M_ex v), (M_im v), (M_al v), (0 : Int32)))) else (if a1 = (1 : Int32) then (some (((M_s (M_rn v)) (219 : Int32).toNatClampNeg), ((M_tp v), (M_rd v), (M_lf v), (M_cd v), (M_rn v), (M_ex v), (M_im v), (M_al v), (0 : Int32)))) else (if a1 = (2 : Int32) then (some (((M_s (M_rn v)) (220 : Int32).toNatClampNeg), ((M_tp v), (M_rd v), (M_lf v), (M_cd v), (M_rn v), (M_ex v), (M_im v), (M_al v), (0 : Int32)))) else (if a1 = (3 : Int32) then (some (((M_s (M_rn v)) (221 : Int32).toNatClampNeg), ((M_tp v), (M_rd v), (M_lf v), (M_cd v), (M_rn v), (M_ex v), (M_im v), (M_al v), (0 : Int32)))) else (if a1 = (4 : Int32) then (some (((M_s (M_rn v)) (222 : Int32).toNatClampNeg), ((M_tp v), (M_rd v), (M_lf v), (M_cd v), (M_rn v), (M_ex v), (M_im v), (M_al v), (0 : Int32)))) else (if a1 = (5 : Int32) then (bd (f_M_ahead ((M_tp v), (M_rd v), (M_lf v), (M_cd v), (M_rn v), (M_ex v), (M_im v), (M_al v), (0 : Int32))) fun (r7 : Int32) => (some (r7, ((M_tp v), (M_rd v), (M_lf v), (M_cd v), (M_rn v), (M_ex v), (M_im v), (M_al v), (0 : Int32))))) else (if a1 = (6 : Int32) then (some (((M_s (M_rn v)) (223 : Int32).toNatClampNeg), ((M_tp v), (M_rd v), (M_lf v), (M_cd v), (M_rn v), (M_ex v), (M_im v), (M_al v), (0 : Int32)))) else (if a1 = (7 : Int32) then (some (((M_s (M_rn v)) (86 : Int32).toNatClampNeg), ((M_tp v), (M_rd v), (M_lf v), (M_cd v), (M_rn v), (M_ex v), (M_im v), (M_al v), (0 : Int32)))) else (if a1 = (8 : Int32) then (some (((M_s (M_rn v)) (103 : Int32).toNatClampNeg), ((M_tp v), (M_rd v), (M_lf v), (M_cd v), (M_rn v), (M_ex v), (M_im v), (M_al v), (0 : Int32)))) else (if a1 = (9 : Int32) then (some (((M_s (M_rn v)) (112 : Int32).toNatClampNeg), ((M_tp v), (M_rd v), (M_lf v), (M_cd v), (M_rn v), (M_ex v), (M_im v), (M_al v), (0 : Int32)))) else (if a1 = (10 : Int32) then (some (((M_s (M_rn v)) (224 : Int32).toNatClampNeg), ((M_tp v), (M_rd v), (M_lf v), (M_cd v), (M_rn v), (M_ex v), (M_im v), (M_al v), (0 : Int32)))) else (if a1 = (11 : Int32) then (some (((M_s (M_rn v)) (225 : Int32).toNatClampNeg), ((M_tp v), (M_rd v), (M_lf v), (M_cd v), (M_rn v), (M_ex v), (M_im v), (M_al v), (0 : Int32)))) else (if a1 = (12 : Int32) then (some (((M_s (M_rn v)) (226 : Int32).toNatClampNeg), ((M_tp v), (M_rd v), (M_lf v), (M_cd v), (M_rn v), (M_ex v), (M_im v), (M_al v), (0 : Int32)))) else (if a1 = (13 : Int32) then (some (((M_s (M_rn v)) (227 : Int32).toNatClampNeg), ((M_tp v), (M_rd v), (M_lf v), (M_cd v), (M_rn v), (M_ex v), (M_im v), (M_al v), (0 : Int32)))) else (if a1 = (14 : Int32) then (some (((M_s (M_rn v)) (265 : Int32).toNatClampNeg), ((M_tp v), (M_rd v), (M_lf v), (M_cd v), (M_rn v), (M_ex v), (M_im v), (M_al v), (0 : Int32)))) else (if a1 = (15 : Int32) then (some (((M_s (M_rn v)) (228 : Int32).toNatClampNeg), ((M_tp v), (M_rd v), (M_lf v), (M_cd v), (M_rn v), (M_ex v), (M_im v), (M_al v), (0 : Int32)))) else (if a1 = (16 : Int32) then (some (((M_s (M_rn v)) (229 : Int32).toNatClampNeg), ((M_tp v), (M_rd v), (M_lf v), (M_cd v), (M_rn v), (M_ex v), (M_im v), (M_al v), (0 : Int32)))) else (if a1 = (17 : Int32) then (bd (f_M_stuck ((M_tp v), (M_rd v), (M_lf v), (M_cd v), (M_rn v), (M_ex v), (M_im v), (M_al v), (0 : Int32))) fun (r21 : Int32) => (some (r21, ((M_tp v), (M_rd v), (M_lf v), (M_cd v), (M_rn v), (M_ex v), (M_im v), (M_al v), (0 : Int32))))) else (some ((-1 : Int32), ((M_tp v), (M_rd v), (M_lf v), (M_cd v), (M_rn v), (M_ex v), (M_im v), (M_al v), (0 : Int32))))))))))))))))))))))
abbrev rm_M_count : Room := { frames := 2, cells := 0, slots := 0, locals := 44 }
set_option maxRecDepth 100000 in
set_option maxHeartbeats 4000000 in
theorem m_M_count (l : Launch) (D : va_G) (K : Nat → ClassId) (q : Nat → Nat) (v : T_M) (a1 : Int32) {r_ : Int32} {o_v : T_M} (hf : f_M_count v a1 = some (r_, o_v)) : MI l yX10_count cX10_count 2 (some .int) rm_M_count D K [.ref (q 0), .int a1] (cl_M K q v) r_ (cl_M K q o_v) := by
  refine MI_of (loc0 := [(0, .ref (q 0)), (1, .int a1)]) (by decide +kernel) rfl (Nat.le_of_ble_eq_true rfl) ?_
  intro p e s m args below meth c A cx
  unfold f_M_count at hf
  refine r_ws (ws' := [((q 0), ob 9 [.int (M_thrown v), .ref (q 1), .int (M_taped (M_tp v)), .ref (q 2), .ref (q 3), .ref (q 4), .ref (q 5), .ref (q 6), .ref (q 7), .ref (q 8), .ref (q 9), .ref (q 10), .ref (q 11), .ref (q 12), .ref (q 13), .ref (q 14), .int (M_lines (M_rd v)), .int (M_size (M_rd v)), .int (M_at (M_rd v)), .int (M_place (M_rd v)), .int (M_sort (M_rd v)), .int (M_value (M_rd v)), .int (M_fault (M_rd v)), .int (M_faultPlace (M_rd v)), .int (M_lastFault (M_lf v)), .int (M_lastPlace (M_lf v)), .ref (q 15), .ref (q 16), .ref (q 17), .ref (q 18), .int (M_hasImage (M_im v)), .int (M_spanNow (M_rn v)), .ref (q 19), .int (M_placeThen (M_rn v)), .int (M_alonePlace (M_al v)), .int (M_aloneSteps (M_al v)), .int (M_aloneOut (M_al v)), .ref (q 20), .ref (q 21), .ref (q 22), .ref (q 23), .int (M_shotAlarm (M_ex v)), .int (M_drawn (M_ex v))]), ((q 1), aI K 700 (M_tape (M_tp v))), ((q 2), aI K 20 (M_number (M_cd v))), ((q 3), aZ K 5 (M_isTold (M_rd v))), ((q 4), aI K 80 (M_codeSort (M_cd v))), ((q 5), aI K 80 (M_codeA (M_cd v))), ((q 6), aI K 80 (M_codeB (M_cd v))), ((q 7), aI K 80 (M_codeC (M_cd v))), ((q 8), aI K 80 (M_codeName (M_cd v))), ((q 9), aI K 80 (M_codePlace (M_cd v))), ((q 10), aI K 80 (M_codeTo (M_cd v))), ((q 11), aI K 280 (M_labelName (M_cd v))), ((q 12), aI K 280 (M_labelAt (M_cd v))), ((q 13), aI K 64 (M_data (M_cd v))), ((q 14), aZ K 32 (M_hasData (M_rd v))), ((q 15), aI K 314 (M_s (M_rn v))), ((q 16), aI K 314 (M_aside (M_ex v))), ((q 17), aI K 314 (M_further (M_ex v))), ((q 18), aI K 314 (M_image (M_im v))), ((q 19), aI K 3 (M_sizeNow (M_rn v))), ((q 20), aI K 8 (M_aloneRegister (M_al v))), ((q 21), aI K 4 (M_aloneReal (M_al v))), ((q 22), aI K 32 (M_aloneMemory (M_al v))), ((q 23), aI K 999 (M_aloneOutput (M_al v)))]) rfl ?_
  refine r_aload_n (pc := 0) cx dX10_count_0 0 rfl ?_
  refine r_iconst (pc := 1) cx dX10_count_1 ic_0 ?_
  refine r_putI (pc := 2) (ws' := [((q 0), ob 9 [.int (0 : Int32), .ref (q 1), .int (M_taped (M_tp v)), .ref (q 2), .ref (q 3), .ref (q 4), .ref (q 5), .ref (q 6), .ref (q 7), .ref (q 8), .ref (q 9), .ref (q 10), .ref (q 11), .ref (q 12), .ref (q 13), .ref (q 14), .int (M_lines (M_rd v)), .int (M_size (M_rd v)), .int (M_at (M_rd v)), .int (M_place (M_rd v)), .int (M_sort (M_rd v)), .int (M_value (M_rd v)), .int (M_fault (M_rd v)), .int (M_faultPlace (M_rd v)), .int (M_lastFault (M_lf v)), .int (M_lastPlace (M_lf v)), .ref (q 15), .ref (q 16), .ref (q 17), .ref (q 18), .int (M_hasImage (M_im v)), .int (M_spanNow (M_rn v)), .ref (q 19), .int (M_placeThen (M_rn v)), .int (M_alonePlace (M_al v)), .int (M_aloneSteps (M_al v)), .int (M_aloneOut (M_al v)), .ref (q 20), .ref (q 21), .ref (q 22), .ref (q 23), .int (M_shotAlarm (M_ex v)), .int (M_drawn (M_ex v))]), ((q 1), aI K 700 (M_tape (M_tp v))), ((q 2), aI K 20 (M_number (M_cd v))), ((q 3), aZ K 5 (M_isTold (M_rd v))), ((q 4), aI K 80 (M_codeSort (M_cd v))), ((q 5), aI K 80 (M_codeA (M_cd v))), ((q 6), aI K 80 (M_codeB (M_cd v))), ((q 7), aI K 80 (M_codeC (M_cd v))), ((q 8), aI K 80 (M_codeName (M_cd v))), ((q 9), aI K 80 (M_codePlace (M_cd v))), ((q 10), aI K 80 (M_codeTo (M_cd v))), ((q 11), aI K 280 (M_labelName (M_cd v))), ((q 12), aI K 280 (M_labelAt (M_cd v))), ((q 13), aI K 64 (M_data (M_cd v))), ((q 14), aZ K 32 (M_hasData (M_rd v))), ((q 15), aI K 314 (M_s (M_rn v))), ((q 16), aI K 314 (M_aside (M_ex v))), ((q 17), aI K 314 (M_further (M_ex v))), ((q 18), aI K 314 (M_image (M_im v))), ((q 19), aI K 3 (M_sizeNow (M_rn v))), ((q 20), aI K 8 (M_aloneRegister (M_al v))), ((q 21), aI K 4 (M_aloneReal (M_al v))), ((q 22), aI K 32 (M_aloneMemory (M_al v))), ((q 23), aI K 999 (M_aloneOutput (M_al v)))]) cx cf_X10 0 0 rfl (by decide) (Nat.le_of_ble_eq_true rfl) rfl pfd_I wd_1316 dX10_count_2 rfl ?_
  refine r_iload_n (pc := 5) cx dX10_count_5 1 rfl ?_
  by_cases h1 : a1 = (0 : Int32)
  · have hf := ifp h1 hf
    refine r_tin (pc := 6) (tgt := 92) cx (0 : Int32) h1 dX10_count_6 (by decide) (by decide) rfl (by decide) ?_
    refine r_aload_n (pc := 92) cx dX10_count_92 0 rfl ?_
    refine r_get (pc := 93) cx cf_X10 0 3 rfl (by decide) rfl wd_1319 dX10_count_93 ?_
    refine r_bipush (pc := 96) cx dX10_count_96 bp_8 ?_
    refine r_iald (pc := 98) cx 2 rfl (by decide) dX10_count_98 ?_
    cases hf
    exact r_iret (pc := 99) cx rfl rfl dX10_count_99
  · have hf := ifn h1 hf
    by_cases h2 : a1 = (1 : Int32)
    · have hf := ifp h2 hf
      refine r_tin (pc := 6) (tgt := 100) cx (1 : Int32) h2 dX10_count_6 (by decide) (by decide) rfl (by decide) ?_
      refine r_aload_n (pc := 100) cx dX10_count_100 0 rfl ?_
      refine r_get (pc := 101) cx cf_X10 0 26 rfl (by decide) rfl wd_1342 dX10_count_101 ?_
      refine r_sipush (pc := 104) cx dX10_count_104 sp_219 ?_
      refine r_iald (pc := 107) cx 15 rfl (by decide) dX10_count_107 ?_
      cases hf
      exact r_iret (pc := 108) cx rfl rfl dX10_count_108
    · have hf := ifn h2 hf
      by_cases h3 : a1 = (2 : Int32)
      · have hf := ifp h3 hf
        refine r_tin (pc := 6) (tgt := 109) cx (2 : Int32) h3 dX10_count_6 (by decide) (by decide) rfl (by decide) ?_
        refine r_aload_n (pc := 109) cx dX10_count_109 0 rfl ?_
        refine r_get (pc := 110) cx cf_X10 0 26 rfl (by decide) rfl wd_1342 dX10_count_110 ?_
        refine r_sipush (pc := 113) cx dX10_count_113 sp_220 ?_
        refine r_iald (pc := 116) cx 15 rfl (by decide) dX10_count_116 ?_
        cases hf
        exact r_iret (pc := 117) cx rfl rfl dX10_count_117
      · have hf := ifn h3 hf
        by_cases h4 : a1 = (3 : Int32)
        · have hf := ifp h4 hf
          refine r_tin (pc := 6) (tgt := 118) cx (3 : Int32) h4 dX10_count_6 (by decide) (by decide) rfl (by decide) ?_
          refine r_aload_n (pc := 118) cx dX10_count_118 0 rfl ?_
          refine r_get (pc := 119) cx cf_X10 0 26 rfl (by decide) rfl wd_1342 dX10_count_119 ?_
          refine r_sipush (pc := 122) cx dX10_count_122 sp_221 ?_
          refine r_iald (pc := 125) cx 15 rfl (by decide) dX10_count_125 ?_
          cases hf
          exact r_iret (pc := 126) cx rfl rfl dX10_count_126
        · have hf := ifn h4 hf
          by_cases h5 : a1 = (4 : Int32)
          · have hf := ifp h5 hf
            refine r_tin (pc := 6) (tgt := 127) cx (4 : Int32) h5 dX10_count_6 (by decide) (by decide) rfl (by decide) ?_
            refine r_aload_n (pc := 127) cx dX10_count_127 0 rfl ?_
            refine r_get (pc := 128) cx cf_X10 0 26 rfl (by decide) rfl wd_1342 dX10_count_128 ?_
            refine r_sipush (pc := 131) cx dX10_count_131 sp_222 ?_
            refine r_iald (pc := 134) cx 15 rfl (by decide) dX10_count_134 ?_
            cases hf
            exact r_iret (pc := 135) cx rfl rfl dX10_count_135
          · have hf := ifn h5 hf
            by_cases h6 : a1 = (5 : Int32)
            · have hf := ifp h6 hf
              refine r_tin (pc := 6) (tgt := 136) cx (5 : Int32) h6 dX10_count_6 (by decide) (by decide) rfl (by decide) ?_
              refine r_aload_n (pc := 136) cx dX10_count_136 0 rfl ?_
              obtain ⟨r7, hc8, hf⟩ := bd_of hf
              refine r_Vi (pc := 137) (ws' := [((q 0), ob 9 [.int (0 : Int32), .ref (q 1), .int (M_taped (M_tp v)), .ref (q 2), .ref (q 3), .ref (q 4), .ref (q 5), .ref (q 6), .ref (q 7), .ref (q 8), .ref (q 9), .ref (q 10), .ref (q 11), .ref (q 12), .ref (q 13), .ref (q 14), .int (M_lines (M_rd v)), .int (M_size (M_rd v)), .int (M_at (M_rd v)), .int (M_place (M_rd v)), .int (M_sort (M_rd v)), .int (M_value (M_rd v)), .int (M_fault (M_rd v)), .int (M_faultPlace (M_rd v)), .int (M_lastFault (M_lf v)), .int (M_lastPlace (M_lf v)), .ref (q 15), .ref (q 16), .ref (q 17), .ref (q 18), .int (M_hasImage (M_im v)), .int (M_spanNow (M_rn v)), .ref (q 19), .int (M_placeThen (M_rn v)), .int (M_alonePlace (M_al v)), .int (M_aloneSteps (M_al v)), .int (M_aloneOut (M_al v)), .ref (q 20), .ref (q 21), .ref (q 22), .ref (q 23), .int (M_shotAlarm (M_ex v)), .int (M_drawn (M_ex v))]), ((q 1), aI K 700 (M_tape (M_tp v))), ((q 2), aI K 20 (M_number (M_cd v))), ((q 3), aZ K 5 (M_isTold (M_rd v))), ((q 4), aI K 80 (M_codeSort (M_cd v))), ((q 5), aI K 80 (M_codeA (M_cd v))), ((q 6), aI K 80 (M_codeB (M_cd v))), ((q 7), aI K 80 (M_codeC (M_cd v))), ((q 8), aI K 80 (M_codeName (M_cd v))), ((q 9), aI K 80 (M_codePlace (M_cd v))), ((q 10), aI K 80 (M_codeTo (M_cd v))), ((q 11), aI K 280 (M_labelName (M_cd v))), ((q 12), aI K 280 (M_labelAt (M_cd v))), ((q 13), aI K 64 (M_data (M_cd v))), ((q 14), aZ K 32 (M_hasData (M_rd v))), ((q 15), aI K 314 (M_s (M_rn v))), ((q 16), aI K 314 (M_aside (M_ex v))), ((q 17), aI K 314 (M_further (M_ex v))), ((q 18), aI K 314 (M_image (M_im v))), ((q 19), aI K 3 (M_sizeNow (M_rn v))), ((q 20), aI K 8 (M_aloneRegister (M_al v))), ((q 21), aI K 4 (M_aloneReal (M_al v))), ((q 22), aI K 32 (M_aloneMemory (M_al v))), ((q 23), aI K 999 (M_aloneOutput (M_al v)))]) (nn := 24) cx [] [] (m_M_ahead l D K q ((M_tp v), (M_rd v), (M_lf v), (M_cd v), (M_rn v), (M_ex v), (M_im v), (M_al v), (0 : Int32)) hc8) yv_X10_ahead wd_1588 ⟨rfl, rfl⟩ (by decide) (fr_s (j := 0) rfl rfl rfl (fr_s (j := 1) rfl rfl rfl (fr_s (j := 2) rfl rfl rfl (fr_s (j := 3) rfl rfl rfl (fr_s (j := 4) rfl rfl rfl (fr_s (j := 5) rfl rfl rfl (fr_s (j := 6) rfl rfl rfl (fr_s (j := 7) rfl rfl rfl (fr_s (j := 8) rfl rfl rfl (fr_s (j := 9) rfl rfl rfl (fr_s (j := 10) rfl rfl rfl (fr_s (j := 11) rfl rfl rfl (fr_s (j := 12) rfl rfl rfl (fr_s (j := 13) rfl rfl rfl (fr_s (j := 14) rfl rfl rfl (fr_s (j := 15) rfl rfl rfl (fr_s (j := 16) rfl rfl rfl (fr_s (j := 17) rfl rfl rfl (fr_s (j := 18) rfl rfl rfl (fr_s (j := 19) rfl rfl rfl (fr_s (j := 20) rfl rfl rfl (fr_s (j := 21) rfl rfl rfl (fr_s (j := 22) rfl rfl rfl (fr_s (j := 23) rfl rfl rfl (fr_n))))))))))))))))))))))))) rfl (by decide) 0 rfl rfl rfl (Nat.le_of_ble_eq_true rfl) dX10_count_137 ?_
              cases hf
              exact r_iret (pc := 140) cx rfl rfl dX10_count_140
            · have hf := ifn h6 hf
              by_cases h9 : a1 = (6 : Int32)
              · have hf := ifp h9 hf
                refine r_tin (pc := 6) (tgt := 141) cx (6 : Int32) h9 dX10_count_6 (by decide) (by decide) rfl (by decide) ?_
                refine r_aload_n (pc := 141) cx dX10_count_141 0 rfl ?_
                refine r_get (pc := 142) cx cf_X10 0 26 rfl (by decide) rfl wd_1342 dX10_count_142 ?_
                refine r_sipush (pc := 145) cx dX10_count_145 sp_223 ?_
                refine r_iald (pc := 148) cx 15 rfl (by decide) dX10_count_148 ?_
                cases hf
                exact r_iret (pc := 149) cx rfl rfl dX10_count_149
              · have hf := ifn h9 hf
                by_cases h10 : a1 = (7 : Int32)
                · have hf := ifp h10 hf
                  refine r_tin (pc := 6) (tgt := 150) cx (7 : Int32) h10 dX10_count_6 (by decide) (by decide) rfl (by decide) ?_
                  refine r_aload_n (pc := 150) cx dX10_count_150 0 rfl ?_
                  refine r_get (pc := 151) cx cf_X10 0 26 rfl (by decide) rfl wd_1342 dX10_count_151 ?_
                  refine r_bipush (pc := 154) cx dX10_count_154 bp_86 ?_
                  refine r_iald (pc := 156) cx 15 rfl (by decide) dX10_count_156 ?_
                  cases hf
                  exact r_iret (pc := 157) cx rfl rfl dX10_count_157
                · have hf := ifn h10 hf
                  by_cases h11 : a1 = (8 : Int32)
                  · have hf := ifp h11 hf
                    refine r_tin (pc := 6) (tgt := 158) cx (8 : Int32) h11 dX10_count_6 (by decide) (by decide) rfl (by decide) ?_
                    refine r_aload_n (pc := 158) cx dX10_count_158 0 rfl ?_
                    refine r_get (pc := 159) cx cf_X10 0 26 rfl (by decide) rfl wd_1342 dX10_count_159 ?_
                    refine r_bipush (pc := 162) cx dX10_count_162 bp_103 ?_
                    refine r_iald (pc := 164) cx 15 rfl (by decide) dX10_count_164 ?_
                    cases hf
                    exact r_iret (pc := 165) cx rfl rfl dX10_count_165
                  · have hf := ifn h11 hf
                    by_cases h12 : a1 = (9 : Int32)
                    · have hf := ifp h12 hf
                      refine r_tin (pc := 6) (tgt := 166) cx (9 : Int32) h12 dX10_count_6 (by decide) (by decide) rfl (by decide) ?_
                      refine r_aload_n (pc := 166) cx dX10_count_166 0 rfl ?_
                      refine r_get (pc := 167) cx cf_X10 0 26 rfl (by decide) rfl wd_1342 dX10_count_167 ?_
                      refine r_bipush (pc := 170) cx dX10_count_170 bp_112 ?_
                      refine r_iald (pc := 172) cx 15 rfl (by decide) dX10_count_172 ?_
                      cases hf
                      exact r_iret (pc := 173) cx rfl rfl dX10_count_173
                    · have hf := ifn h12 hf
                      by_cases h13 : a1 = (10 : Int32)
                      · have hf := ifp h13 hf
                        refine r_tin (pc := 6) (tgt := 174) cx (10 : Int32) h13 dX10_count_6 (by decide) (by decide) rfl (by decide) ?_
                        refine r_aload_n (pc := 174) cx dX10_count_174 0 rfl ?_
                        refine r_get (pc := 175) cx cf_X10 0 26 rfl (by decide) rfl wd_1342 dX10_count_175 ?_
                        refine r_sipush (pc := 178) cx dX10_count_178 sp_224 ?_
                        refine r_iald (pc := 181) cx 15 rfl (by decide) dX10_count_181 ?_
                        cases hf
                        exact r_iret (pc := 182) cx rfl rfl dX10_count_182
                      · have hf := ifn h13 hf
                        by_cases h14 : a1 = (11 : Int32)
                        · have hf := ifp h14 hf
                          refine r_tin (pc := 6) (tgt := 183) cx (11 : Int32) h14 dX10_count_6 (by decide) (by decide) rfl (by decide) ?_
                          refine r_aload_n (pc := 183) cx dX10_count_183 0 rfl ?_
                          refine r_get (pc := 184) cx cf_X10 0 26 rfl (by decide) rfl wd_1342 dX10_count_184 ?_
                          refine r_sipush (pc := 187) cx dX10_count_187 sp_225 ?_
                          refine r_iald (pc := 190) cx 15 rfl (by decide) dX10_count_190 ?_
                          cases hf
                          exact r_iret (pc := 191) cx rfl rfl dX10_count_191
                        · have hf := ifn h14 hf
                          by_cases h15 : a1 = (12 : Int32)
                          · have hf := ifp h15 hf
                            refine r_tin (pc := 6) (tgt := 192) cx (12 : Int32) h15 dX10_count_6 (by decide) (by decide) rfl (by decide) ?_
                            refine r_aload_n (pc := 192) cx dX10_count_192 0 rfl ?_
                            refine r_get (pc := 193) cx cf_X10 0 26 rfl (by decide) rfl wd_1342 dX10_count_193 ?_
                            refine r_sipush (pc := 196) cx dX10_count_196 sp_226 ?_
                            refine r_iald (pc := 199) cx 15 rfl (by decide) dX10_count_199 ?_
                            cases hf
                            exact r_iret (pc := 200) cx rfl rfl dX10_count_200
                          · have hf := ifn h15 hf
                            by_cases h16 : a1 = (13 : Int32)
                            · have hf := ifp h16 hf
                              refine r_tin (pc := 6) (tgt := 201) cx (13 : Int32) h16 dX10_count_6 (by decide) (by decide) rfl (by decide) ?_
                              refine r_aload_n (pc := 201) cx dX10_count_201 0 rfl ?_
                              refine r_get (pc := 202) cx cf_X10 0 26 rfl (by decide) rfl wd_1342 dX10_count_202 ?_
                              refine r_sipush (pc := 205) cx dX10_count_205 sp_227 ?_
                              refine r_iald (pc := 208) cx 15 rfl (by decide) dX10_count_208 ?_
                              cases hf
                              exact r_iret (pc := 209) cx rfl rfl dX10_count_209
                            · have hf := ifn h16 hf
                              by_cases h17 : a1 = (14 : Int32)
                              · have hf := ifp h17 hf
                                refine r_tin (pc := 6) (tgt := 210) cx (14 : Int32) h17 dX10_count_6 (by decide) (by decide) rfl (by decide) ?_
                                refine r_aload_n (pc := 210) cx dX10_count_210 0 rfl ?_
                                refine r_get (pc := 211) cx cf_X10 0 26 rfl (by decide) rfl wd_1342 dX10_count_211 ?_
                                refine r_sipush (pc := 214) cx dX10_count_214 sp_265 ?_
                                refine r_iald (pc := 217) cx 15 rfl (by decide) dX10_count_217 ?_
                                cases hf
                                exact r_iret (pc := 218) cx rfl rfl dX10_count_218
                              · have hf := ifn h17 hf
                                by_cases h18 : a1 = (15 : Int32)
                                · have hf := ifp h18 hf
                                  refine r_tin (pc := 6) (tgt := 219) cx (15 : Int32) h18 dX10_count_6 (by decide) (by decide) rfl (by decide) ?_
                                  refine r_aload_n (pc := 219) cx dX10_count_219 0 rfl ?_
                                  refine r_get (pc := 220) cx cf_X10 0 26 rfl (by decide) rfl wd_1342 dX10_count_220 ?_
                                  refine r_sipush (pc := 223) cx dX10_count_223 sp_228 ?_
                                  refine r_iald (pc := 226) cx 15 rfl (by decide) dX10_count_226 ?_
                                  cases hf
                                  exact r_iret (pc := 227) cx rfl rfl dX10_count_227
                                · have hf := ifn h18 hf
                                  by_cases h19 : a1 = (16 : Int32)
                                  · have hf := ifp h19 hf
                                    refine r_tin (pc := 6) (tgt := 228) cx (16 : Int32) h19 dX10_count_6 (by decide) (by decide) rfl (by decide) ?_
                                    refine r_aload_n (pc := 228) cx dX10_count_228 0 rfl ?_
                                    refine r_get (pc := 229) cx cf_X10 0 26 rfl (by decide) rfl wd_1342 dX10_count_229 ?_
                                    refine r_sipush (pc := 232) cx dX10_count_232 sp_229 ?_
                                    refine r_iald (pc := 235) cx 15 rfl (by decide) dX10_count_235 ?_
                                    cases hf
                                    exact r_iret (pc := 236) cx rfl rfl dX10_count_236
                                  · have hf := ifn h19 hf
                                    by_cases h20 : a1 = (17 : Int32)
                                    · have hf := ifp h20 hf
                                      refine r_tin (pc := 6) (tgt := 237) cx (17 : Int32) h20 dX10_count_6 (by decide) (by decide) rfl (by decide) ?_
                                      refine r_aload_n (pc := 237) cx dX10_count_237 0 rfl ?_
                                      obtain ⟨r21, hc22, hf⟩ := bd_of hf
                                      refine r_Vi (pc := 238) (ws' := [((q 0), ob 9 [.int (0 : Int32), .ref (q 1), .int (M_taped (M_tp v)), .ref (q 2), .ref (q 3), .ref (q 4), .ref (q 5), .ref (q 6), .ref (q 7), .ref (q 8), .ref (q 9), .ref (q 10), .ref (q 11), .ref (q 12), .ref (q 13), .ref (q 14), .int (M_lines (M_rd v)), .int (M_size (M_rd v)), .int (M_at (M_rd v)), .int (M_place (M_rd v)), .int (M_sort (M_rd v)), .int (M_value (M_rd v)), .int (M_fault (M_rd v)), .int (M_faultPlace (M_rd v)), .int (M_lastFault (M_lf v)), .int (M_lastPlace (M_lf v)), .ref (q 15), .ref (q 16), .ref (q 17), .ref (q 18), .int (M_hasImage (M_im v)), .int (M_spanNow (M_rn v)), .ref (q 19), .int (M_placeThen (M_rn v)), .int (M_alonePlace (M_al v)), .int (M_aloneSteps (M_al v)), .int (M_aloneOut (M_al v)), .ref (q 20), .ref (q 21), .ref (q 22), .ref (q 23), .int (M_shotAlarm (M_ex v)), .int (M_drawn (M_ex v))]), ((q 1), aI K 700 (M_tape (M_tp v))), ((q 2), aI K 20 (M_number (M_cd v))), ((q 3), aZ K 5 (M_isTold (M_rd v))), ((q 4), aI K 80 (M_codeSort (M_cd v))), ((q 5), aI K 80 (M_codeA (M_cd v))), ((q 6), aI K 80 (M_codeB (M_cd v))), ((q 7), aI K 80 (M_codeC (M_cd v))), ((q 8), aI K 80 (M_codeName (M_cd v))), ((q 9), aI K 80 (M_codePlace (M_cd v))), ((q 10), aI K 80 (M_codeTo (M_cd v))), ((q 11), aI K 280 (M_labelName (M_cd v))), ((q 12), aI K 280 (M_labelAt (M_cd v))), ((q 13), aI K 64 (M_data (M_cd v))), ((q 14), aZ K 32 (M_hasData (M_rd v))), ((q 15), aI K 314 (M_s (M_rn v))), ((q 16), aI K 314 (M_aside (M_ex v))), ((q 17), aI K 314 (M_further (M_ex v))), ((q 18), aI K 314 (M_image (M_im v))), ((q 19), aI K 3 (M_sizeNow (M_rn v))), ((q 20), aI K 8 (M_aloneRegister (M_al v))), ((q 21), aI K 4 (M_aloneReal (M_al v))), ((q 22), aI K 32 (M_aloneMemory (M_al v))), ((q 23), aI K 999 (M_aloneOutput (M_al v)))]) (nn := 24) cx [] [] (m_M_stuck l D K q ((M_tp v), (M_rd v), (M_lf v), (M_cd v), (M_rn v), (M_ex v), (M_im v), (M_al v), (0 : Int32)) hc22) yv_X10_stuck wd_1718 ⟨rfl, rfl⟩ (by decide) (fr_s (j := 0) rfl rfl rfl (fr_s (j := 1) rfl rfl rfl (fr_s (j := 2) rfl rfl rfl (fr_s (j := 3) rfl rfl rfl (fr_s (j := 4) rfl rfl rfl (fr_s (j := 5) rfl rfl rfl (fr_s (j := 6) rfl rfl rfl (fr_s (j := 7) rfl rfl rfl (fr_s (j := 8) rfl rfl rfl (fr_s (j := 9) rfl rfl rfl (fr_s (j := 10) rfl rfl rfl (fr_s (j := 11) rfl rfl rfl (fr_s (j := 12) rfl rfl rfl (fr_s (j := 13) rfl rfl rfl (fr_s (j := 14) rfl rfl rfl (fr_s (j := 15) rfl rfl rfl (fr_s (j := 16) rfl rfl rfl (fr_s (j := 17) rfl rfl rfl (fr_s (j := 18) rfl rfl rfl (fr_s (j := 19) rfl rfl rfl (fr_s (j := 20) rfl rfl rfl (fr_s (j := 21) rfl rfl rfl (fr_s (j := 22) rfl rfl rfl (fr_s (j := 23) rfl rfl rfl (fr_n))))))))))))))))))))))))) rfl (by decide) 0 rfl rfl rfl (Nat.le_of_ble_eq_true rfl) dX10_count_238 ?_
                                      cases hf
                                      exact r_iret (pc := 241) cx rfl rfl dX10_count_241
                                    · have hf := ifn h20 hf
                                      refine r_tout (pc := 6) (tgt := 242) cx dX10_count_6 (by
                                        have nh1 := toInt_ne h1
                                        have mh1 : (0 : Int32).toInt = 0 := by decide
                                        rw [mh1] at nh1
                                        have nh2 := toInt_ne h2
                                        have mh2 : (1 : Int32).toInt = 1 := by decide
                                        rw [mh2] at nh2
                                        have nh3 := toInt_ne h3
                                        have mh3 : (2 : Int32).toInt = 2 := by decide
                                        rw [mh3] at nh3
                                        have nh4 := toInt_ne h4
                                        have mh4 : (3 : Int32).toInt = 3 := by decide
                                        rw [mh4] at nh4
                                        have nh5 := toInt_ne h5
                                        have mh5 : (4 : Int32).toInt = 4 := by decide
                                        rw [mh5] at nh5
                                        have nh6 := toInt_ne h6
                                        have mh6 : (5 : Int32).toInt = 5 := by decide
                                        rw [mh6] at nh6
                                        have nh9 := toInt_ne h9
                                        have mh9 : (6 : Int32).toInt = 6 := by decide
                                        rw [mh9] at nh9
                                        have nh10 := toInt_ne h10
                                        have mh10 : (7 : Int32).toInt = 7 := by decide
                                        rw [mh10] at nh10
                                        have nh11 := toInt_ne h11
                                        have mh11 : (8 : Int32).toInt = 8 := by decide
                                        rw [mh11] at nh11
                                        have nh12 := toInt_ne h12
                                        have mh12 : (9 : Int32).toInt = 9 := by decide
                                        rw [mh12] at nh12
                                        have nh13 := toInt_ne h13
                                        have mh13 : (10 : Int32).toInt = 10 := by decide
                                        rw [mh13] at nh13
                                        have nh14 := toInt_ne h14
                                        have mh14 : (11 : Int32).toInt = 11 := by decide
                                        rw [mh14] at nh14
                                        have nh15 := toInt_ne h15
                                        have mh15 : (12 : Int32).toInt = 12 := by decide
                                        rw [mh15] at nh15
                                        have nh16 := toInt_ne h16
                                        have mh16 : (13 : Int32).toInt = 13 := by decide
                                        rw [mh16] at nh16
                                        have nh17 := toInt_ne h17
                                        have mh17 : (14 : Int32).toInt = 14 := by decide
                                        rw [mh17] at nh17
                                        have nh18 := toInt_ne h18
                                        have mh18 : (15 : Int32).toInt = 15 := by decide
                                        rw [mh18] at nh18
                                        have nh19 := toInt_ne h19
                                        have mh19 : (16 : Int32).toInt = 16 := by decide
                                        rw [mh19] at nh19
                                        have nh20 := toInt_ne h20
                                        have mh20 : (17 : Int32).toInt = 17 := by decide
                                        rw [mh20] at nh20
                                        omega) (by decide) ?_
                                      refine r_iconst (pc := 242) cx dX10_count_242 ic_m1 ?_
                                      cases hf
                                      exact r_iret (pc := 243) cx rfl rfl dX10_count_243
theorem yv_X10_count : YV yX10_count cX10_count 2 (some .int) 1 := ⟨⟨by decide +kernel, by decide +kernel, by decide +kernel⟩, wd_1876, wd_102, wd_1874, wd_1875⟩
