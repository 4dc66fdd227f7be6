def f_M_aloneGoes_L10 (a1 : Int32) (k10_50 : T_M → Option (T_M)) : Nat → T_M → Option (T_M)
  | 0, _ => none
  | n10 + 1, v1 =>
    (if a1 ≤ (M_aloneSteps (M_al v1)) then (k10_50 v1) else (bd (f_M_isHaltedAt v1 (M_alonePlace (M_al v1))) fun (r4 : Int32) => (if r4 = (0 : Int32) then (bd (f_M_aloneStep v1 (M_alonePlace (M_al v1))) fun (v7 : T_M) => (nm ((M_aloneSteps (M_al v7)) + (1 : Int32)) fun (x9 : Int32) => (f_M_aloneGoes_L10 a1 k10_50 n10 ((M_tp v7), (M_rd v7), (M_lf v7), (M_cd v7), (M_rn v7), (M_ex v7), (M_im v7), ((M_alonePlace (M_al v7)), x9, (M_aloneOut (M_al v7)), (M_aloneRegister (M_al v7)), (M_aloneReal (M_al v7)), (M_aloneMemory (M_al v7)), (M_aloneOutput (M_al v7))), (M_thrown v7))))) else (k10_50 v1))))
def f_M_aloneGoes (v : T_M) (a1 : Int32) : Option (T_M) :=
  (f_M_aloneGoes_L10 a1 (fun (v2 : T_M) => (some v2)) LF ((M_tp v), (M_rd v), (M_lf v), (M_cd v), (M_rn v), (M_ex v), (M_im v), ((M_alonePlace (M_al v)), (0 : Int32), (0 : Int32), (M_aloneRegister (M_al v)), (M_aloneReal (M_al v)), (M_aloneMemory (M_al v)), (M_aloneOutput (M_al v))), (M_thrown v)))
abbrev rm_M_aloneGoes : Room := { frames := 5, cells := 0, slots := 0, locals := 122 }
set_option maxRecDepth 100000 in
set_option maxHeartbeats 4000000 in
theorem m_M_aloneGoes (l : Launch) (D : va_G) (K : Nat → ClassId) (q : Nat → Nat) (v : T_M) (a1 : Int32) {o_v : T_M} (hf : f_M_aloneGoes v a1 = some o_v) : MV l yX10_aloneGoes cX10_aloneGoes 2 (none) rm_M_aloneGoes D K [.ref (q 0), .int a1] (cl_M K q v) (cl_M K q o_v) := by
  refine MV_of (loc0 := [(0, .ref (q 0)), (1, .int a1)]) (by decide +kernel) rfl (Nat.le_of_ble_eq_true rfl) ?_
  intro p e s m args below meth c A cx
  unfold f_M_aloneGoes at hf
  refine r_ws (ws' := [((q 0), ob 9 [.int (M_thrown v), .ref (q 1), .int (M_taped (M_tp v)), .ref (q 2), .ref (q 3), .ref (q 4), .ref (q 5), .ref (q 6), .ref (q 7), .ref (q 8), .ref (q 9), .ref (q 10), .ref (q 11), .ref (q 12), .ref (q 13), .ref (q 14), .int (M_lines (M_rd v)), .int (M_size (M_rd v)), .int (M_at (M_rd v)), .int (M_place (M_rd v)), .int (M_sort (M_rd v)), .int (M_value (M_rd v)), .int (M_fault (M_rd v)), .int (M_faultPlace (M_rd v)), .int (M_lastFault (M_lf v)), .int (M_lastPlace (M_lf v)), .ref (q 15), .ref (q 16), .ref (q 17), .ref (q 18), .int (M_hasImage (M_im v)), .int (M_spanNow (M_rn v)), .ref (q 19), .int (M_placeThen (M_rn v)), .int (M_alonePlace (M_al v)), .int (M_aloneSteps (M_al v)), .int (M_aloneOut (M_al v)), .ref (q 20), .ref (q 21), .ref (q 22), .ref (q 23), .int (M_shotAlarm (M_ex v)), .int (M_drawn (M_ex v))]), ((q 1), aI K 700 (M_tape (M_tp v))), ((q 2), aI K 20 (M_number (M_cd v))), ((q 3), aZ K 5 (M_isTold (M_rd v))), ((q 4), aI K 80 (M_codeSort (M_cd v))), ((q 5), aI K 80 (M_codeA (M_cd v))), ((q 6), aI K 80 (M_codeB (M_cd v))), ((q 7), aI K 80 (M_codeC (M_cd v))), ((q 8), aI K 80 (M_codeName (M_cd v))), ((q 9), aI K 80 (M_codePlace (M_cd v))), ((q 10), aI K 80 (M_codeTo (M_cd v))), ((q 11), aI K 280 (M_labelName (M_cd v))), ((q 12), aI K 280 (M_labelAt (M_cd v))), ((q 13), aI K 64 (M_data (M_cd v))), ((q 14), aZ K 32 (M_hasData (M_rd v))), ((q 15), aI K 314 (M_s (M_rn v))), ((q 16), aI K 314 (M_aside (M_ex v))), ((q 17), aI K 314 (M_further (M_ex v))), ((q 18), aI K 314 (M_image (M_im v))), ((q 19), aI K 3 (M_sizeNow (M_rn v))), ((q 20), aI K 8 (M_aloneRegister (M_al v))), ((q 21), aI K 4 (M_aloneReal (M_al v))), ((q 22), aI K 32 (M_aloneMemory (M_al v))), ((q 23), aI K 999 (M_aloneOutput (M_al v)))]) rfl ?_
  refine r_aload_n (pc := 0) cx dX10_aloneGoes_0 0 rfl ?_
  refine r_iconst (pc := 1) cx dX10_aloneGoes_1 ic_0 ?_
  refine r_putI (pc := 2) (ws' := [((q 0), ob 9 [.int (M_thrown v), .ref (q 1), .int (M_taped (M_tp v)), .ref (q 2), .ref (q 3), .ref (q 4), .ref (q 5), .ref (q 6), .ref (q 7), .ref (q 8), .ref (q 9), .ref (q 10), .ref (q 11), .ref (q 12), .ref (q 13), .ref (q 14), .int (M_lines (M_rd v)), .int (M_size (M_rd v)), .int (M_at (M_rd v)), .int (M_place (M_rd v)), .int (M_sort (M_rd v)), .int (M_value (M_rd v)), .int (M_fault (M_rd v)), .int (M_faultPlace (M_rd v)), .int (M_lastFault (M_lf v)), .int (M_lastPlace (M_lf v)), .ref (q 15), .ref (q 16), .ref (q 17), .ref (q 18), .int (M_hasImage (M_im v)), .int (M_spanNow (M_rn v)), .ref (q 19), .int (M_placeThen (M_rn v)), .int (M_alonePlace (M_al v)), .int (0 : Int32), .int (M_aloneOut (M_al v)), .ref (q 20), .ref (q 21), .ref (q 22), .ref (q 23), .int (M_shotAlarm (M_ex v)), .int (M_drawn (M_ex v))]), ((q 1), aI K 700 (M_tape (M_tp v))), ((q 2), aI K 20 (M_number (M_cd v))), ((q 3), aZ K 5 (M_isTold (M_rd v))), ((q 4), aI K 80 (M_codeSort (M_cd v))), ((q 5), aI K 80 (M_codeA (M_cd v))), ((q 6), aI K 80 (M_codeB (M_cd v))), ((q 7), aI K 80 (M_codeC (M_cd v))), ((q 8), aI K 80 (M_codeName (M_cd v))), ((q 9), aI K 80 (M_codePlace (M_cd v))), ((q 10), aI K 80 (M_codeTo (M_cd v))), ((q 11), aI K 280 (M_labelName (M_cd v))), ((q 12), aI K 280 (M_labelAt (M_cd v))), ((q 13), aI K 64 (M_data (M_cd v))), ((q 14), aZ K 32 (M_hasData (M_rd v))), ((q 15), aI K 314 (M_s (M_rn v))), ((q 16), aI K 314 (M_aside (M_ex v))), ((q 17), aI K 314 (M_further (M_ex v))), ((q 18), aI K 314 (M_image (M_im v))), ((q 19), aI K 3 (M_sizeNow (M_rn v))), ((q 20), aI K 8 (M_aloneRegister (M_al v))), ((q 21), aI K 4 (M_aloneReal (M_al v))), ((q 22), aI K 32 (M_aloneMemory (M_al v))), ((q 23), aI K 999 (M_aloneOutput (M_al v)))]) cx cf_X10 0 35 rfl (by decide) (Nat.le_of_ble_eq_true rfl) rfl pfd_I wd_1351 dX10_aloneGoes_2 rfl ?_
  refine r_aload_n (pc := 5) cx dX10_aloneGoes_5 0 rfl ?_
  refine r_iconst (pc := 6) cx dX10_aloneGoes_6 ic_0 ?_
  refine r_putI (pc := 7) (ws' := [((q 0), ob 9 [.int (M_thrown v), .ref (q 1), .int (M_taped (M_tp v)), .ref (q 2), .ref (q 3), .ref (q 4), .ref (q 5), .ref (q 6), .ref (q 7), .ref (q 8), .ref (q 9), .ref (q 10), .ref (q 11), .ref (q 12), .ref (q 13), .ref (q 14), .int (M_lines (M_rd v)), .int (M_size (M_rd v)), .int (M_at (M_rd v)), .int (M_place (M_rd v)), .int (M_sort (M_rd v)), .int (M_value (M_rd v)), .int (M_fault (M_rd v)), .int (M_faultPlace (M_rd v)), .int (M_lastFault (M_lf v)), .int (M_lastPlace (M_lf v)), .ref (q 15), .ref (q 16), .ref (q 17), .ref (q 18), .int (M_hasImage (M_im v)), .int (M_spanNow (M_rn v)), .ref (q 19), .int (M_placeThen (M_rn v)), .int (M_alonePlace (M_al v)), .int (0 : Int32), .int (0 : Int32), .ref (q 20), .ref (q 21), .ref (q 22), .ref (q 23), .int (M_shotAlarm (M_ex v)), .int (M_drawn (M_ex v))]), ((q 1), aI K 700 (M_tape (M_tp v))), ((q 2), aI K 20 (M_number (M_cd v))), ((q 3), aZ K 5 (M_isTold (M_rd v))), ((q 4), aI K 80 (M_codeSort (M_cd v))), ((q 5), aI K 80 (M_codeA (M_cd v))), ((q 6), aI K 80 (M_codeB (M_cd v))), ((q 7), aI K 80 (M_codeC (M_cd v))), ((q 8), aI K 80 (M_codeName (M_cd v))), ((q 9), aI K 80 (M_codePlace (M_cd v))), ((q 10), aI K 80 (M_codeTo (M_cd v))), ((q 11), aI K 280 (M_labelName (M_cd v))), ((q 12), aI K 280 (M_labelAt (M_cd v))), ((q 13), aI K 64 (M_data (M_cd v))), ((q 14), aZ K 32 (M_hasData (M_rd v))), ((q 15), aI K 314 (M_s (M_rn v))), ((q 16), aI K 314 (M_aside (M_ex v))), ((q 17), aI K 314 (M_further (M_ex v))), ((q 18), aI K 314 (M_image (M_im v))), ((q 19), aI K 3 (M_sizeNow (M_rn v))), ((q 20), aI K 8 (M_aloneRegister (M_al v))), ((q 21), aI K 4 (M_aloneReal (M_al v))), ((q 22), aI K 32 (M_aloneMemory (M_al v))), ((q 23), aI K 999 (M_aloneOutput (M_al v)))]) cx cf_X10 0 36 rfl (by decide) (Nat.le_of_ble_eq_true rfl) rfl pfd_I wd_1352 dX10_aloneGoes_7 rfl ?_
  have hL10 : ∀ (k10_50 : T_M → Option (T_M)), (∀ (v2 : T_M), k10_50 v2 = some o_v → WW p l e rm_M_aloneGoes s m args below meth c D A 2 0 0 (MQ below (QV D K A (cl_M K q o_v)) args s 0 0 A) ([((q 0), ob 9 [.int (M_thrown v2), .ref (q 1), .int (M_taped (M_tp v2)), .ref (q 2), .ref (q 3), .ref (q 4), .ref (q 5), .ref (q 6), .ref (q 7), .ref (q 8), .ref (q 9), .ref (q 10), .ref (q 11), .ref (q 12), .ref (q 13), .ref (q 14), .int (M_lines (M_rd v2)), .int (M_size (M_rd v2)), .int (M_at (M_rd v2)), .int (M_place (M_rd v2)), .int (M_sort (M_rd v2)), .int (M_value (M_rd v2)), .int (M_fault (M_rd v2)), .int (M_faultPlace (M_rd v2)), .int (M_lastFault (M_lf v2)), .int (M_lastPlace (M_lf v2)), .ref (q 15), .ref (q 16), .ref (q 17), .ref (q 18), .int (M_hasImage (M_im v2)), .int (M_spanNow (M_rn v2)), .ref (q 19), .int (M_placeThen (M_rn v2)), .int (M_alonePlace (M_al v2)), .int (M_aloneSteps (M_al v2)), .int (M_aloneOut (M_al v2)), .ref (q 20), .ref (q 21), .ref (q 22), .ref (q 23), .int (M_shotAlarm (M_ex v2)), .int (M_drawn (M_ex v2))]), ((q 1), aI K 700 (M_tape (M_tp v2))), ((q 2), aI K 20 (M_number (M_cd v2))), ((q 3), aZ K 5 (M_isTold (M_rd v2))), ((q 4), aI K 80 (M_codeSort (M_cd v2))), ((q 5), aI K 80 (M_codeA (M_cd v2))), ((q 6), aI K 80 (M_codeB (M_cd v2))), ((q 7), aI K 80 (M_codeC (M_cd v2))), ((q 8), aI K 80 (M_codeName (M_cd v2))), ((q 9), aI K 80 (M_codePlace (M_cd v2))), ((q 10), aI K 80 (M_codeTo (M_cd v2))), ((q 11), aI K 280 (M_labelName (M_cd v2))), ((q 12), aI K 280 (M_labelAt (M_cd v2))), ((q 13), aI K 64 (M_data (M_cd v2))), ((q 14), aZ K 32 (M_hasData (M_rd v2))), ((q 15), aI K 314 (M_s (M_rn v2))), ((q 16), aI K 314 (M_aside (M_ex v2))), ((q 17), aI K 314 (M_further (M_ex v2))), ((q 18), aI K 314 (M_image (M_im v2))), ((q 19), aI K 3 (M_sizeNow (M_rn v2))), ((q 20), aI K 8 (M_aloneRegister (M_al v2))), ((q 21), aI K 4 (M_aloneReal (M_al v2))), ((q 22), aI K 32 (M_aloneMemory (M_al v2))), ((q 23), aI K 999 (M_aloneOutput (M_al v2)))]) ([]) ([]) 50) → ∀ (n10 : Nat) (v1 : T_M), f_M_aloneGoes_L10 a1 k10_50 n10 v1 = some o_v → WW p l e rm_M_aloneGoes s m args below meth c D A 2 0 0 (MQ below (QV D K A (cl_M K q o_v)) args s 0 0 A) ([((q 0), ob 9 [.int (M_thrown v1), .ref (q 1), .int (M_taped (M_tp v1)), .ref (q 2), .ref (q 3), .ref (q 4), .ref (q 5), .ref (q 6), .ref (q 7), .ref (q 8), .ref (q 9), .ref (q 10), .ref (q 11), .ref (q 12), .ref (q 13), .ref (q 14), .int (M_lines (M_rd v1)), .int (M_size (M_rd v1)), .int (M_at (M_rd v1)), .int (M_place (M_rd v1)), .int (M_sort (M_rd v1)), .int (M_value (M_rd v1)), .int (M_fault (M_rd v1)), .int (M_faultPlace (M_rd v1)), .int (M_lastFault (M_lf v1)), .int (M_lastPlace (M_lf v1)), .ref (q 15), .ref (q 16), .ref (q 17), .ref (q 18), .int (M_hasImage (M_im v1)), .int (M_spanNow (M_rn v1)), .ref (q 19), .int (M_placeThen (M_rn v1)), .int (M_alonePlace (M_al v1)), .int (M_aloneSteps (M_al v1)), .int (M_aloneOut (M_al v1)), .ref (q 20), .ref (q 21), .ref (q 22), .ref (q 23), .int (M_shotAlarm (M_ex v1)), .int (M_drawn (M_ex v1))]), ((q 1), aI K 700 (M_tape (M_tp v1))), ((q 2), aI K 20 (M_number (M_cd v1))), ((q 3), aZ K 5 (M_isTold (M_rd v1))), ((q 4), aI K 80 (M_codeSort (M_cd v1))), ((q 5), aI K 80 (M_codeA (M_cd v1))), ((q 6), aI K 80 (M_codeB (M_cd v1))), ((q 7), aI K 80 (M_codeC (M_cd v1))), ((q 8), aI K 80 (M_codeName (M_cd v1))), ((q 9), aI K 80 (M_codePlace (M_cd v1))), ((q 10), aI K 80 (M_codeTo (M_cd v1))), ((q 11), aI K 280 (M_labelName (M_cd v1))), ((q 12), aI K 280 (M_labelAt (M_cd v1))), ((q 13), aI K 64 (M_data (M_cd v1))), ((q 14), aZ K 32 (M_hasData (M_rd v1))), ((q 15), aI K 314 (M_s (M_rn v1))), ((q 16), aI K 314 (M_aside (M_ex v1))), ((q 17), aI K 314 (M_further (M_ex v1))), ((q 18), aI K 314 (M_image (M_im v1))), ((q 19), aI K 3 (M_sizeNow (M_rn v1))), ((q 20), aI K 8 (M_aloneRegister (M_al v1))), ((q 21), aI K 4 (M_aloneReal (M_al v1))), ((q 22), aI K 32 (M_aloneMemory (M_al v1))), ((q 23), aI K 999 (M_aloneOutput (M_al v1)))]) ([(0, .ref (q 0)), (1, .int a1)]) ([]) 10 := by
    intro k10_50 hk10_50 n10
    induction n10 with
    | zero => intro v1 hf; exact (nomatch (show (none : Option (T_M)) = some _ from hf))
    | succ n10 ih10 =>
      intro v1 hf
      rw [f_M_aloneGoes_L10] at hf
      refine r_aload_n (pc := 10) cx dX10_aloneGoes_10 0 rfl ?_
      refine r_get (pc := 11) cx cf_X10 0 35 rfl (by decide) rfl wd_1351 dX10_aloneGoes_11 ?_
      refine r_iload_n (pc := 14) cx dX10_aloneGoes_14 1 rfl ?_
      refine r_icmp_ge (pc := 15) (tgt := 50) cx dX10_aloneGoes_15 (by decide) (fun h3 => ?_) (fun h3 => ?_)
      · have hf := ifp h3 hf
        refine r_loc (loc' := []) [] rfl ?_
        exact hk10_50 _ hf
      · have hf := ifn h3 hf
        refine r_aload_n (pc := 18) cx dX10_aloneGoes_18 0 rfl ?_
        refine r_aload_n (pc := 19) cx dX10_aloneGoes_19 0 rfl ?_
        refine r_get (pc := 20) cx cf_X10 0 34 rfl (by decide) rfl wd_1350 dX10_aloneGoes_20 ?_
        obtain ⟨r4, hc5, hf⟩ := bd_of hf
        refine r_Vi (pc := 23) (ws' := [((q 0), ob 9 [.int (M_thrown v1), .ref (q 1), .int (M_taped (M_tp v1)), .ref (q 2), .ref (q 3), .ref (q 4), .ref (q 5), .ref (q 6), .ref (q 7), .ref (q 8), .ref (q 9), .ref (q 10), .ref (q 11), .ref (q 12), .ref (q 13), .ref (q 14), .int (M_lines (M_rd v1)), .int (M_size (M_rd v1)), .int (M_at (M_rd v1)), .int (M_place (M_rd v1)), .int (M_sort (M_rd v1)), .int (M_value (M_rd v1)), .int (M_fault (M_rd v1)), .int (M_faultPlace (M_rd v1)), .int (M_lastFault (M_lf v1)), .int (M_lastPlace (M_lf v1)), .ref (q 15), .ref (q 16), .ref (q 17), .ref (q 18), .int (M_hasImage (M_im v1)), .int (M_spanNow (M_rn v1)), .ref (q 19), .int (M_placeThen (M_rn v1)), .int (M_alonePlace (M_al v1)), .int (M_aloneSteps (M_al v1)), .int (M_aloneOut (M_al v1)), .ref (q 20), .ref (q 21), .ref (q 22), .ref (q 23), .int (M_shotAlarm (M_ex v1)), .int (M_drawn (M_ex v1))]), ((q 1), aI K 700 (M_tape (M_tp v1))), ((q 2), aI K 20 (M_number (M_cd v1))), ((q 3), aZ K 5 (M_isTold (M_rd v1))), ((q 4), aI K 80 (M_codeSort (M_cd v1))), ((q 5), aI K 80 (M_codeA (M_cd v1))), ((q 6), aI K 80 (M_codeB (M_cd v1))), ((q 7), aI K 80 (M_codeC (M_cd v1))), ((q 8), aI K 80 (M_codeName (M_cd v1))), ((q 9), aI K 80 (M_codePlace (M_cd v1))), ((q 10), aI K 80 (M_codeTo (M_cd v1))), ((q 11), aI K 280 (M_labelName (M_cd v1))), ((q 12), aI K 280 (M_labelAt (M_cd v1))), ((q 13), aI K 64 (M_data (M_cd v1))), ((q 14), aZ K 32 (M_hasData (M_rd v1))), ((q 15), aI K 314 (M_s (M_rn v1))), ((q 16), aI K 314 (M_aside (M_ex v1))), ((q 17), aI K 314 (M_further (M_ex v1))), ((q 18), aI K 314 (M_image (M_im v1))), ((q 19), aI K 3 (M_sizeNow (M_rn v1))), ((q 20), aI K 8 (M_aloneRegister (M_al v1))), ((q 21), aI K 4 (M_aloneReal (M_al v1))), ((q 22), aI K 32 (M_aloneMemory (M_al v1))), ((q 23), aI K 999 (M_aloneOutput (M_al v1)))]) (nn := 24) cx [.int (M_alonePlace (M_al v1))] [] (m_M_isHaltedAt l D K q v1 (M_alonePlace (M_al v1)) hc5) yv_X10_isHaltedAt wd_1584 ⟨rfl, rfl⟩ (by decide) (fr_s (j := 0) rfl rfl rfl (fr_s (j := 1) rfl rfl rfl (fr_s (j := 2) rfl rfl rfl (fr_s (j := 3) rfl rfl rfl (fr_s (j := 4) rfl rfl rfl (fr_s (j := 5) rfl rfl rfl (fr_s (j := 6) rfl rfl rfl (fr_s (j := 7) rfl rfl rfl (fr_s (j := 8) rfl rfl rfl (fr_s (j := 9) rfl rfl rfl (fr_s (j := 10) rfl rfl rfl (fr_s (j := 11) rfl rfl rfl (fr_s (j := 12) rfl rfl rfl (fr_s (j := 13) rfl rfl rfl (fr_s (j := 14) rfl rfl rfl (fr_s (j := 15) rfl rfl rfl (fr_s (j := 16) rfl rfl rfl (fr_s (j := 17) rfl rfl rfl (fr_s (j := 18) rfl rfl rfl (fr_s (j := 19) rfl rfl rfl (fr_s (j := 20) rfl rfl rfl (fr_s (j := 21) rfl rfl rfl (fr_s (j := 22) rfl rfl rfl (fr_s (j := 23) rfl rfl rfl (fr_n))))))))))))))))))))))))) rfl (by decide) 0 rfl rfl rfl (Nat.le_of_ble_eq_true rfl) dX10_aloneGoes_23 ?_
        refine r_if_ne (pc := 26) (tgt := 50) cx dX10_aloneGoes_26 (by decide) (fun h6 => ?_) (fun h6 => ?_)
        · have hf := ifn h6 hf
          refine r_loc (loc' := []) [] rfl ?_
          exact hk10_50 _ hf
        · have hf := ifp h6 hf
          refine r_aload_n (pc := 29) cx dX10_aloneGoes_29 0 rfl ?_
          refine r_aload_n (pc := 30) cx dX10_aloneGoes_30 0 rfl ?_
          refine r_get (pc := 31) cx cf_X10 0 34 rfl (by decide) rfl wd_1350 dX10_aloneGoes_31 ?_
          obtain ⟨v7, hc8, hf⟩ := bd_of hf
          refine r_Vv (pc := 34) (ws' := [((q 0), ob 9 [.int (M_thrown v7), .ref (q 1), .int (M_taped (M_tp v7)), .ref (q 2), .ref (q 3), .ref (q 4), .ref (q 5), .ref (q 6), .ref (q 7), .ref (q 8), .ref (q 9), .ref (q 10), .ref (q 11), .ref (q 12), .ref (q 13), .ref (q 14), .int (M_lines (M_rd v7)), .int (M_size (M_rd v7)), .int (M_at (M_rd v7)), .int (M_place (M_rd v7)), .int (M_sort (M_rd v7)), .int (M_value (M_rd v7)), .int (M_fault (M_rd v7)), .int (M_faultPlace (M_rd v7)), .int (M_lastFault (M_lf v7)), .int (M_lastPlace (M_lf v7)), .ref (q 15), .ref (q 16), .ref (q 17), .ref (q 18), .int (M_hasImage (M_im v7)), .int (M_spanNow (M_rn v7)), .ref (q 19), .int (M_placeThen (M_rn v7)), .int (M_alonePlace (M_al v7)), .int (M_aloneSteps (M_al v7)), .int (M_aloneOut (M_al v7)), .ref (q 20), .ref (q 21), .ref (q 22), .ref (q 23), .int (M_shotAlarm (M_ex v7)), .int (M_drawn (M_ex v7))]), ((q 1), aI K 700 (M_tape (M_tp v7))), ((q 2), aI K 20 (M_number (M_cd v7))), ((q 3), aZ K 5 (M_isTold (M_rd v7))), ((q 4), aI K 80 (M_codeSort (M_cd v7))), ((q 5), aI K 80 (M_codeA (M_cd v7))), ((q 6), aI K 80 (M_codeB (M_cd v7))), ((q 7), aI K 80 (M_codeC (M_cd v7))), ((q 8), aI K 80 (M_codeName (M_cd v7))), ((q 9), aI K 80 (M_codePlace (M_cd v7))), ((q 10), aI K 80 (M_codeTo (M_cd v7))), ((q 11), aI K 280 (M_labelName (M_cd v7))), ((q 12), aI K 280 (M_labelAt (M_cd v7))), ((q 13), aI K 64 (M_data (M_cd v7))), ((q 14), aZ K 32 (M_hasData (M_rd v7))), ((q 15), aI K 314 (M_s (M_rn v7))), ((q 16), aI K 314 (M_aside (M_ex v7))), ((q 17), aI K 314 (M_further (M_ex v7))), ((q 18), aI K 314 (M_image (M_im v7))), ((q 19), aI K 3 (M_sizeNow (M_rn v7))), ((q 20), aI K 8 (M_aloneRegister (M_al v7))), ((q 21), aI K 4 (M_aloneReal (M_al v7))), ((q 22), aI K 32 (M_aloneMemory (M_al v7))), ((q 23), aI K 999 (M_aloneOutput (M_al v7)))]) (nn := 24) cx [.int (M_alonePlace (M_al v1))] [] (m_M_aloneStep l D K q v1 (M_alonePlace (M_al v1)) hc8) yv_X10_aloneStep wd_1783 ⟨rfl, rfl⟩ (by decide) (fr_s (j := 0) rfl rfl rfl (fr_s (j := 1) rfl rfl rfl (fr_s (j := 2) rfl rfl rfl (fr_s (j := 3) rfl rfl rfl (fr_s (j := 4) rfl rfl rfl (fr_s (j := 5) rfl rfl rfl (fr_s (j := 6) rfl rfl rfl (fr_s (j := 7) rfl rfl rfl (fr_s (j := 8) rfl rfl rfl (fr_s (j := 9) rfl rfl rfl (fr_s (j := 10) rfl rfl rfl (fr_s (j := 11) rfl rfl rfl (fr_s (j := 12) rfl rfl rfl (fr_s (j := 13) rfl rfl rfl (fr_s (j := 14) rfl rfl rfl (fr_s (j := 15) rfl rfl rfl (fr_s (j := 16) rfl rfl rfl (fr_s (j := 17) rfl rfl rfl (fr_s (j := 18) rfl rfl rfl (fr_s (j := 19) rfl rfl rfl (fr_s (j := 20) rfl rfl rfl (fr_s (j := 21) rfl rfl rfl (fr_s (j := 22) rfl rfl rfl (fr_s (j := 23) rfl rfl rfl (fr_n))))))))))))))))))))))))) rfl (by decide) 0 rfl rfl rfl (Nat.le_of_ble_eq_true rfl) dX10_aloneGoes_34 ?_
          refine r_aload_n (pc := 37) cx dX10_aloneGoes_37 0 rfl ?_
          refine r_dup (pc := 38) cx dX10_aloneGoes_38 rfl ?_
          refine r_get (pc := 39) cx cf_X10 0 35 rfl (by decide) rfl wd_1351 dX10_aloneGoes_39 ?_
          refine r_iconst (pc := 42) cx dX10_aloneGoes_42 ic_1 ?_
          refine r_iadd (pc := 43) cx dX10_aloneGoes_43 ?_
          obtain ⟨x9, ex9, hf⟩ := nm_of hf
          refine r_nm ex9 ?_
          refine r_putI (pc := 44) (ws' := [((q 0), ob 9 [.int (M_thrown v7), .ref (q 1), .int (M_taped (M_tp v7)), .ref (q 2), .ref (q 3), .ref (q 4), .ref (q 5), .ref (q 6), .ref (q 7), .ref (q 8), .ref (q 9), .ref (q 10), .ref (q 11), .ref (q 12), .ref (q 13), .ref (q 14), .int (M_lines (M_rd v7)), .int (M_size (M_rd v7)), .int (M_at (M_rd v7)), .int (M_place (M_rd v7)), .int (M_sort (M_rd v7)), .int (M_value (M_rd v7)), .int (M_fault (M_rd v7)), .int (M_faultPlace (M_rd v7)), .int (M_lastFault (M_lf v7)), .int (M_lastPlace (M_lf v7)), .ref (q 15), .ref (q 16), .ref (q 17), .ref (q 18), .int (M_hasImage (M_im v7)), .int (M_spanNow (M_rn v7)), .ref (q 19), .int (M_placeThen (M_rn v7)), .int (M_alonePlace (M_al v7)), .int x9, .int (M_aloneOut (M_al v7)), .ref (q 20), .ref (q 21), .ref (q 22), .ref (q 23), .int (M_shotAlarm (M_ex v7)), .int (M_drawn (M_ex v7))]), ((q 1), aI K 700 (M_tape (M_tp v7))), ((q 2), aI K 20 (M_number (M_cd v7))), ((q 3), aZ K 5 (M_isTold (M_rd v7))), ((q 4), aI K 80 (M_codeSort (M_cd v7))), ((q 5), aI K 80 (M_codeA (M_cd v7))), ((q 6), aI K 80 (M_codeB (M_cd v7))), ((q 7), aI K 80 (M_codeC (M_cd v7))), ((q 8), aI K 80 (M_codeName (M_cd v7))), ((q 9), aI K 80 (M_codePlace (M_cd v7))), ((q 10), aI K 80 (M_codeTo (M_cd v7))), ((q 11), aI K 280 (M_labelName (M_cd v7))), ((q 12), aI K 280 (M_labelAt (M_cd v7))), ((q 13), aI K 64 (M_data (M_cd v7))), ((q 14), aZ K 32 (M_hasData (M_rd v7))), ((q 15), aI K 314 (M_s (M_rn v7))), ((q 16), aI K 314 (M_aside (M_ex v7))), ((q 17), aI K 314 (M_further (M_ex v7))), ((q 18), aI K 314 (M_image (M_im v7))), ((q 19), aI K 3 (M_sizeNow (M_rn v7))), ((q 20), aI K 8 (M_aloneRegister (M_al v7))), ((q 21), aI K 4 (M_aloneReal (M_al v7))), ((q 22), aI K 32 (M_aloneMemory (M_al v7))), ((q 23), aI K 999 (M_aloneOutput (M_al v7)))]) cx cf_X10 0 35 rfl (by decide) (Nat.le_of_ble_eq_true rfl) rfl pfd_I wd_1351 dX10_aloneGoes_44 rfl ?_
          refine r_goto (pc := 47) (tgt := 10) cx dX10_aloneGoes_47 (by decide) ?_
          exact ih10 _ hf
  refine hL10 _ (fun v2 hf => ?_) _ _ hf
  cases hf
  exact r_vret (pc := 50) cx rfl dX10_aloneGoes_50
theorem yv_X10_aloneGoes : YV yX10_aloneGoes cX10_aloneGoes 2 (none) 1 := ⟨⟨by decide +kernel, by decide +kernel, by decide +kernel⟩, wd_1782, wd_102, wd_1781, wd_80⟩
def f_M_alone_L7  (k7_26 : (Nat → Int32) → Option (T_M)) : Nat → Int32 → (Nat → Int32) → Option (T_M)
  | 0, _, _ => none
  | n7 + 1, x1, f2 =>
    (if (8 : Int32) ≤ x1 then (k7_26 f2) else (if ix x1 8 then (nm (upd f2 x1.toNatClampNeg (0 : Int32)) fun (f6 : Nat → Int32) => (nm (x1 + (1 : Int32)) fun (x7 : Int32) => (f_M_alone_L7 k7_26 n7 x7 f6))) else none))
def f_M_alone_L28  (k28_46 : (Nat → Int32) → Option (T_M)) : Nat → Int32 → (Nat → Int32) → Option (T_M)
  | 0, _, _ => none
  | n28 + 1, x8, f9 =>
    (if (4 : Int32) ≤ x8 then (k28_46 f9) else (if ix x8 4 then (nm (upd f9 x8.toNatClampNeg (0 : Int32)) fun (f13 : Nat → Int32) => (nm (x8 + (1 : Int32)) fun (x14 : Int32) => (f_M_alone_L28 k28_46 n28 x14 f13))) else none))
def f_M_alone_L48 (v : T_M) (k48_72 : (Nat → Int32) → Option (T_M)) : Nat → Int32 → (Nat → Int32) → Option (T_M)
  | 0, _, _ => none
  | n48 + 1, x15, f16 =>
    (if (32 : Int32) ≤ x15 then (k48_72 f16) else (if ix x15 64 then (nm ((M_data (M_cd v)) x15.toNatClampNeg) fun (x20 : Int32) => (if ix x15 32 then (nm (upd f16 x15.toNatClampNeg x20) fun (f22 : Nat → Int32) => (nm (x15 + (1 : Int32)) fun (x23 : Int32) => (f_M_alone_L48 v k48_72 n48 x23 f22))) else none)) else none))
def f_M_alone (v : T_M) (a1 : Int32) : Option (T_M) :=
  (f_M_alone_L7 (fun (f3 : (Nat → Int32)) => (f_M_alone_L28 (fun (f10 : (Nat → Int32)) => (f_M_alone_L48 v (fun (f17 : (Nat → Int32)) => (bd (f_M_aloneGoes ((M_tp v), (M_rd v), (M_lf v), (M_cd v), (M_rn v), (M_ex v), (M_im v), ((0 : Int32), (M_aloneSteps (M_al v)), (M_aloneOut (M_al v)), f3, f10, f17, (M_aloneOutput (M_al v))), (M_thrown v)) a1) fun (v24 : T_M) => (some v24))) LF (0 : Int32) (M_aloneMemory (M_al v)))) LF (0 : Int32) (M_aloneReal (M_al v)))) LF (0 : Int32) (M_aloneRegister (M_al v)))
abbrev rm_M_alone : Room := { frames := 6, cells := 0, slots := 0, locals := 143 }
set_option maxRecDepth 100000 in
set_option maxHeartbeats 4000000 in
theorem m_M_alone (l : Launch) (D : va_G) (K : Nat → ClassId) (q : Nat → Nat) (v : T_M) (a1 : Int32) {o_v : T_M} (hf : f_M_alone v a1 = some o_v) : MV l yX10_alone cX10_alone 3 (none) rm_M_alone D K [.ref (q 0), .int a1] (cl_M K q v) (cl_M K q o_v) := by
  refine MV_of (loc0 := [(0, .ref (q 0)), (1, .int a1)]) (by decide +kernel) rfl (Nat.le_of_ble_eq_true rfl) ?_
  intro p e s m args below meth c A cx
  unfold f_M_alone at hf
  refine r_ws (ws' := [((q 0), ob 9 [.int (M_thrown v), .ref (q 1), .int (M_taped (M_tp v)), .ref (q 2), .ref (q 3), .ref (q 4), .ref (q 5), .ref (q 6), .ref (q 7), .ref (q 8), .ref (q 9), .ref (q 10), .ref (q 11), .ref (q 12), .ref (q 13), .ref (q 14), .int (M_lines (M_rd v)), .int (M_size (M_rd v)), .int (M_at (M_rd v)), .int (M_place (M_rd v)), .int (M_sort (M_rd v)), .int (M_value (M_rd v)), .int (M_fault (M_rd v)), .int (M_faultPlace (M_rd v)), .int (M_lastFault (M_lf v)), .int (M_lastPlace (M_lf v)), .ref (q 15), .ref (q 16), .ref (q 17), .ref (q 18), .int (M_hasImage (M_im v)), .int (M_spanNow (M_rn v)), .ref (q 19), .int (M_placeThen (M_rn v)), .int (M_alonePlace (M_al v)), .int (M_aloneSteps (M_al v)), .int (M_aloneOut (M_al v)), .ref (q 20), .ref (q 21), .ref (q 22), .ref (q 23), .int (M_shotAlarm (M_ex v)), .int (M_drawn (M_ex v))]), ((q 1), aI K 700 (M_tape (M_tp v))), ((q 2), aI K 20 (M_number (M_cd v))), ((q 3), aZ K 5 (M_isTold (M_rd v))), ((q 4), aI K 80 (M_codeSort (M_cd v))), ((q 5), aI K 80 (M_codeA (M_cd v))), ((q 6), aI K 80 (M_codeB (M_cd v))), ((q 7), aI K 80 (M_codeC (M_cd v))), ((q 8), aI K 80 (M_codeName (M_cd v))), ((q 9), aI K 80 (M_codePlace (M_cd v))), ((q 10), aI K 80 (M_codeTo (M_cd v))), ((q 11), aI K 280 (M_labelName (M_cd v))), ((q 12), aI K 280 (M_labelAt (M_cd v))), ((q 13), aI K 64 (M_data (M_cd v))), ((q 14), aZ K 32 (M_hasData (M_rd v))), ((q 15), aI K 314 (M_s (M_rn v))), ((q 16), aI K 314 (M_aside (M_ex v))), ((q 17), aI K 314 (M_further (M_ex v))), ((q 18), aI K 314 (M_image (M_im v))), ((q 19), aI K 3 (M_sizeNow (M_rn v))), ((q 20), aI K 8 (M_aloneRegister (M_al v))), ((q 21), aI K 4 (M_aloneReal (M_al v))), ((q 22), aI K 32 (M_aloneMemory (M_al v))), ((q 23), aI K 999 (M_aloneOutput (M_al v)))]) rfl ?_
  refine r_aload_n (pc := 0) cx dX10_alone_0 0 rfl ?_
  refine r_iconst (pc := 1) cx dX10_alone_1 ic_0 ?_
  refine r_putI (pc := 2) (ws' := [((q 0), ob 9 [.int (M_thrown v), .ref (q 1), .int (M_taped (M_tp v)), .ref (q 2), .ref (q 3), .ref (q 4), .ref (q 5), .ref (q 6), .ref (q 7), .ref (q 8), .ref (q 9), .ref (q 10), .ref (q 11), .ref (q 12), .ref (q 13), .ref (q 14), .int (M_lines (M_rd v)), .int (M_size (M_rd v)), .int (M_at (M_rd v)), .int (M_place (M_rd v)), .int (M_sort (M_rd v)), .int (M_value (M_rd v)), .int (M_fault (M_rd v)), .int (M_faultPlace (M_rd v)), .int (M_lastFault (M_lf v)), .int (M_lastPlace (M_lf v)), .ref (q 15), .ref (q 16), .ref (q 17), .ref (q 18), .int (M_hasImage (M_im v)), .int (M_spanNow (M_rn v)), .ref (q 19), .int (M_placeThen (M_rn v)), .int (0 : Int32), .int (M_aloneSteps (M_al v)), .int (M_aloneOut (M_al v)), .ref (q 20), .ref (q 21), .ref (q 22), .ref (q 23), .int (M_shotAlarm (M_ex v)), .int (M_drawn (M_ex v))]), ((q 1), aI K 700 (M_tape (M_tp v))), ((q 2), aI K 20 (M_number (M_cd v))), ((q 3), aZ K 5 (M_isTold (M_rd v))), ((q 4), aI K 80 (M_codeSort (M_cd v))), ((q 5), aI K 80 (M_codeA (M_cd v))), ((q 6), aI K 80 (M_codeB (M_cd v))), ((q 7), aI K 80 (M_codeC (M_cd v))), ((q 8), aI K 80 (M_codeName (M_cd v))), ((q 9), aI K 80 (M_codePlace (M_cd v))), ((q 10), aI K 80 (M_codeTo (M_cd v))), ((q 11), aI K 280 (M_labelName (M_cd v))), ((q 12), aI K 280 (M_labelAt (M_cd v))), ((q 13), aI K 64 (M_data (M_cd v))), ((q 14), aZ K 32 (M_hasData (M_rd v))), ((q 15), aI K 314 (M_s (M_rn v))), ((q 16), aI K 314 (M_aside (M_ex v))), ((q 17), aI K 314 (M_further (M_ex v))), ((q 18), aI K 314 (M_image (M_im v))), ((q 19), aI K 3 (M_sizeNow (M_rn v))), ((q 20), aI K 8 (M_aloneRegister (M_al v))), ((q 21), aI K 4 (M_aloneReal (M_al v))), ((q 22), aI K 32 (M_aloneMemory (M_al v))), ((q 23), aI K 999 (M_aloneOutput (M_al v)))]) cx cf_X10 0 34 rfl (by decide) (Nat.le_of_ble_eq_true rfl) rfl pfd_I wd_1350 dX10_alone_2 rfl ?_
  refine r_iconst (pc := 5) cx dX10_alone_5 ic_0 ?_
  refine r_istore_n (pc := 6) (loc' := [(2, .int (0 : Int32)), (0, .ref (q 0)), (1, .int a1)]) cx dX10_alone_6 rfl (by decide) rfl ?_
  have hL7 : ∀ (k7_26 : (Nat → Int32) → Option (T_M)), (∀ (f3 : (Nat → Int32)), k7_26 f3 = some o_v → WW p l e rm_M_alone s m args below meth c D A 3 0 0 (MQ below (QV D K A (cl_M K q o_v)) args s 0 0 A) ([((q 0), ob 9 [.int (M_thrown v), .ref (q 1), .int (M_taped (M_tp v)), .ref (q 2), .ref (q 3), .ref (q 4), .ref (q 5), .ref (q 6), .ref (q 7), .ref (q 8), .ref (q 9), .ref (q 10), .ref (q 11), .ref (q 12), .ref (q 13), .ref (q 14), .int (M_lines (M_rd v)), .int (M_size (M_rd v)), .int (M_at (M_rd v)), .int (M_place (M_rd v)), .int (M_sort (M_rd v)), .int (M_value (M_rd v)), .int (M_fault (M_rd v)), .int (M_faultPlace (M_rd v)), .int (M_lastFault (M_lf v)), .int (M_lastPlace (M_lf v)), .ref (q 15), .ref (q 16), .ref (q 17), .ref (q 18), .int (M_hasImage (M_im v)), .int (M_spanNow (M_rn v)), .ref (q 19), .int (M_placeThen (M_rn v)), .int (0 : Int32), .int (M_aloneSteps (M_al v)), .int (M_aloneOut (M_al v)), .ref (q 20), .ref (q 21), .ref (q 22), .ref (q 23), .int (M_shotAlarm (M_ex v)), .int (M_drawn (M_ex v))]), ((q 1), aI K 700 (M_tape (M_tp v))), ((q 2), aI K 20 (M_number (M_cd v))), ((q 3), aZ K 5 (M_isTold (M_rd v))), ((q 4), aI K 80 (M_codeSort (M_cd v))), ((q 5), aI K 80 (M_codeA (M_cd v))), ((q 6), aI K 80 (M_codeB (M_cd v))), ((q 7), aI K 80 (M_codeC (M_cd v))), ((q 8), aI K 80 (M_codeName (M_cd v))), ((q 9), aI K 80 (M_codePlace (M_cd v))), ((q 10), aI K 80 (M_codeTo (M_cd v))), ((q 11), aI K 280 (M_labelName (M_cd v))), ((q 12), aI K 280 (M_labelAt (M_cd v))), ((q 13), aI K 64 (M_data (M_cd v))), ((q 14), aZ K 32 (M_hasData (M_rd v))), ((q 15), aI K 314 (M_s (M_rn v))), ((q 16), aI K 314 (M_aside (M_ex v))), ((q 17), aI K 314 (M_further (M_ex v))), ((q 18), aI K 314 (M_image (M_im v))), ((q 19), aI K 3 (M_sizeNow (M_rn v))), ((q 20), aI K 8 f3), ((q 21), aI K 4 (M_aloneReal (M_al v))), ((q 22), aI K 32 (M_aloneMemory (M_al v))), ((q 23), aI K 999 (M_aloneOutput (M_al v)))]) ([(0, .ref (q 0)), (1, .int a1)]) ([]) 26) → ∀ (n7 : Nat) (x1 : Int32) (f2 : (Nat → Int32)), f_M_alone_L7 k7_26 n7 x1 f2 = some o_v → WW p l e rm_M_alone s m args below meth c D A 3 0 0 (MQ below (QV D K A (cl_M K q o_v)) args s 0 0 A) ([((q 0), ob 9 [.int (M_thrown v), .ref (q 1), .int (M_taped (M_tp v)), .ref (q 2), .ref (q 3), .ref (q 4), .ref (q 5), .ref (q 6), .ref (q 7), .ref (q 8), .ref (q 9), .ref (q 10), .ref (q 11), .ref (q 12), .ref (q 13), .ref (q 14), .int (M_lines (M_rd v)), .int (M_size (M_rd v)), .int (M_at (M_rd v)), .int (M_place (M_rd v)), .int (M_sort (M_rd v)), .int (M_value (M_rd v)), .int (M_fault (M_rd v)), .int (M_faultPlace (M_rd v)), .int (M_lastFault (M_lf v)), .int (M_lastPlace (M_lf v)), .ref (q 15), .ref (q 16), .ref (q 17), .ref (q 18), .int (M_hasImage (M_im v)), .int (M_spanNow (M_rn v)), .ref (q 19), .int (M_placeThen (M_rn v)), .int (0 : Int32), .int (M_aloneSteps (M_al v)), .int (M_aloneOut (M_al v)), .ref (q 20), .ref (q 21), .ref (q 22), .ref (q 23), .int (M_shotAlarm (M_ex v)), .int (M_drawn (M_ex v))]), ((q 1), aI K 700 (M_tape (M_tp v))), ((q 2), aI K 20 (M_number (M_cd v))), ((q 3), aZ K 5 (M_isTold (M_rd v))), ((q 4), aI K 80 (M_codeSort (M_cd v))), ((q 5), aI K 80 (M_codeA (M_cd v))), ((q 6), aI K 80 (M_codeB (M_cd v))), ((q 7), aI K 80 (M_codeC (M_cd v))), ((q 8), aI K 80 (M_codeName (M_cd v))), ((q 9), aI K 80 (M_codePlace (M_cd v))), ((q 10), aI K 80 (M_codeTo (M_cd v))), ((q 11), aI K 280 (M_labelName (M_cd v))), ((q 12), aI K 280 (M_labelAt (M_cd v))), ((q 13), aI K 64 (M_data (M_cd v))), ((q 14), aZ K 32 (M_hasData (M_rd v))), ((q 15), aI K 314 (M_s (M_rn v))), ((q 16), aI K 314 (M_aside (M_ex v))), ((q 17), aI K 314 (M_further (M_ex v))), ((q 18), aI K 314 (M_image (M_im v))), ((q 19), aI K 3 (M_sizeNow (M_rn v))), ((q 20), aI K 8 f2), ((q 21), aI K 4 (M_aloneReal (M_al v))), ((q 22), aI K 32 (M_aloneMemory (M_al v))), ((q 23), aI K 999 (M_aloneOutput (M_al v)))]) ([(0, .ref (q 0)), (1, .int a1), (2, .int x1)]) ([]) 7 := by
    intro k7_26 hk7_26 n7
    induction n7 with
    | zero => intro x1 f2 hf; exact (nomatch (show (none : Option (T_M)) = some _ from hf))
    | succ n7 ih7 =>
      intro x1 f2 hf
      rw [f_M_alone_L7] at hf
      refine r_iload_n (pc := 7) cx dX10_alone_7 2 rfl ?_
      refine r_bipush (pc := 8) cx dX10_alone_8 bp_8 ?_
      refine r_icmp_ge (pc := 10) (tgt := 26) cx dX10_alone_10 (by decide) (fun h4 => ?_) (fun h4 => ?_)
      · have hf := ifp h4 hf
        refine r_loc (loc' := [(0, .ref (q 0)), (1, .int a1)]) [0, 1] rfl ?_
        exact hk7_26 _ hf
      · have hf := ifn h4 hf
        refine r_aload_n (pc := 13) cx dX10_alone_13 0 rfl ?_
        refine r_get (pc := 14) cx cf_X10 0 37 rfl (by decide) rfl wd_1353 dX10_alone_14 ?_
        refine r_iload_n (pc := 17) cx dX10_alone_17 2 rfl ?_
        refine r_iconst (pc := 18) cx dX10_alone_18 ic_0 ?_
        obtain ⟨h5, hf⟩ := chk_of hf
        obtain ⟨f6, ef6, hf⟩ := nm_of hf
        refine r_iast (pc := 19) (ws' := [((q 0), ob 9 [.int (M_thrown v), .ref (q 1), .int (M_taped (M_tp v)), .ref (q 2), .ref (q 3), .ref (q 4), .ref (q 5), .ref (q 6), .ref (q 7), .ref (q 8), .ref (q 9), .ref (q 10), .ref (q 11), .ref (q 12), .ref (q 13), .ref (q 14), .int (M_lines (M_rd v)), .int (M_size (M_rd v)), .int (M_at (M_rd v)), .int (M_place (M_rd v)), .int (M_sort (M_rd v)), .int (M_value (M_rd v)), .int (M_fault (M_rd v)), .int (M_faultPlace (M_rd v)), .int (M_lastFault (M_lf v)), .int (M_lastPlace (M_lf v)), .ref (q 15), .ref (q 16), .ref (q 17), .ref (q 18), .int (M_hasImage (M_im v)), .int (M_spanNow (M_rn v)), .ref (q 19), .int (M_placeThen (M_rn v)), .int (0 : Int32), .int (M_aloneSteps (M_al v)), .int (M_aloneOut (M_al v)), .ref (q 20), .ref (q 21), .ref (q 22), .ref (q 23), .int (M_shotAlarm (M_ex v)), .int (M_drawn (M_ex v))]), ((q 1), aI K 700 (M_tape (M_tp v))), ((q 2), aI K 20 (M_number (M_cd v))), ((q 3), aZ K 5 (M_isTold (M_rd v))), ((q 4), aI K 80 (M_codeSort (M_cd v))), ((q 5), aI K 80 (M_codeA (M_cd v))), ((q 6), aI K 80 (M_codeB (M_cd v))), ((q 7), aI K 80 (M_codeC (M_cd v))), ((q 8), aI K 80 (M_codeName (M_cd v))), ((q 9), aI K 80 (M_codePlace (M_cd v))), ((q 10), aI K 80 (M_codeTo (M_cd v))), ((q 11), aI K 280 (M_labelName (M_cd v))), ((q 12), aI K 280 (M_labelAt (M_cd v))), ((q 13), aI K 64 (M_data (M_cd v))), ((q 14), aZ K 32 (M_hasData (M_rd v))), ((q 15), aI K 314 (M_s (M_rn v))), ((q 16), aI K 314 (M_aside (M_ex v))), ((q 17), aI K 314 (M_further (M_ex v))), ((q 18), aI K 314 (M_image (M_im v))), ((q 19), aI K 3 (M_sizeNow (M_rn v))), ((q 20), aI K 8 f6), ((q 21), aI K 4 (M_aloneReal (M_al v))), ((q 22), aI K 32 (M_aloneMemory (M_al v))), ((q 23), aI K 999 (M_aloneOutput (M_al v)))]) cx 20 rfl h5 dX10_alone_19 ef6 rfl ?_
        obtain ⟨x7, ex7, hf⟩ := nm_of hf
        refine r_iinc (pc := 20) (loc' := [(2, .int x7), (0, .ref (q 0)), (1, .int a1)]) (v := x7) cx dX10_alone_20 2 rfl ((congrArg (fun z => x1 + z) ic_1).trans ex7.symm) (by decide) rfl ?_
        refine r_goto (pc := 23) (tgt := 7) cx dX10_alone_23 (by decide) ?_
        refine r_loc (loc' := [(0, .ref (q 0)), (1, .int a1), (2, .int x7)]) [1, 2, 0] rfl ?_
        exact ih7 _ _ hf
  refine r_loc (loc' := [(0, .ref (q 0)), (1, .int a1), (2, .int (0 : Int32))]) [1, 2, 0] rfl ?_
  refine hL7 _ (fun f3 hf => ?_) _ _ _ hf
  refine r_iconst (pc := 26) cx dX10_alone_26 ic_0 ?_
  refine r_istore_n (pc := 27) (loc' := [(2, .int (0 : Int32)), (0, .ref (q 0)), (1, .int a1)]) cx dX10_alone_27 rfl (by decide) rfl ?_
  have hL28 : ∀ (k28_46 : (Nat → Int32) → Option (T_M)), (∀ (f10 : (Nat → Int32)), k28_46 f10 = some o_v → WW p l e rm_M_alone s m args below meth c D A 3 0 0 (MQ below (QV D K A (cl_M K q o_v)) args s 0 0 A) ([((q 0), ob 9 [.int (M_thrown v), .ref (q 1), .int (M_taped (M_tp v)), .ref (q 2), .ref (q 3), .ref (q 4), .ref (q 5), .ref (q 6), .ref (q 7), .ref (q 8), .ref (q 9), .ref (q 10), .ref (q 11), .ref (q 12), .ref (q 13), .ref (q 14), .int (M_lines (M_rd v)), .int (M_size (M_rd v)), .int (M_at (M_rd v)), .int (M_place (M_rd v)), .int (M_sort (M_rd v)), .int (M_value (M_rd v)), .int (M_fault (M_rd v)), .int (M_faultPlace (M_rd v)), .int (M_lastFault (M_lf v)), .int (M_lastPlace (M_lf v)), .ref (q 15), .ref (q 16), .ref (q 17), .ref (q 18), .int (M_hasImage (M_im v)), .int (M_spanNow (M_rn v)), .ref (q 19), .int (M_placeThen (M_rn v)), .int (0 : Int32), .int (M_aloneSteps (M_al v)), .int (M_aloneOut (M_al v)), .ref (q 20), .ref (q 21), .ref (q 22), .ref (q 23), .int (M_shotAlarm (M_ex v)), .int (M_drawn (M_ex v))]), ((q 1), aI K 700 (M_tape (M_tp v))), ((q 2), aI K 20 (M_number (M_cd v))), ((q 3), aZ K 5 (M_isTold (M_rd v))), ((q 4), aI K 80 (M_codeSort (M_cd v))), ((q 5), aI K 80 (M_codeA (M_cd v))), ((q 6), aI K 80 (M_codeB (M_cd v))), ((q 7), aI K 80 (M_codeC (M_cd v))), ((q 8), aI K 80 (M_codeName (M_cd v))), ((q 9), aI K 80 (M_codePlace (M_cd v))), ((q 10), aI K 80 (M_codeTo (M_cd v))), ((q 11), aI K 280 (M_labelName (M_cd v))), ((q 12), aI K 280 (M_labelAt (M_cd v))), ((q 13), aI K 64 (M_data (M_cd v))), ((q 14), aZ K 32 (M_hasData (M_rd v))), ((q 15), aI K 314 (M_s (M_rn v))), ((q 16), aI K 314 (M_aside (M_ex v))), ((q 17), aI K 314 (M_further (M_ex v))), ((q 18), aI K 314 (M_image (M_im v))), ((q 19), aI K 3 (M_sizeNow (M_rn v))), ((q 20), aI K 8 f3), ((q 21), aI K 4 f10), ((q 22), aI K 32 (M_aloneMemory (M_al v))), ((q 23), aI K 999 (M_aloneOutput (M_al v)))]) ([(0, .ref (q 0)), (1, .int a1)]) ([]) 46) → ∀ (n28 : Nat) (x8 : Int32) (f9 : (Nat → Int32)), f_M_alone_L28 k28_46 n28 x8 f9 = some o_v → WW p l e rm_M_alone s m args below meth c D A 3 0 0 (MQ below (QV D K A (cl_M K q o_v)) args s 0 0 A) ([((q 0), ob 9 [.int (M_thrown v), .ref (q 1), .int (M_taped (M_tp v)), .ref (q 2), .ref (q 3), .ref (q 4), .ref (q 5), .ref (q 6), .ref (q 7), .ref (q 8), .ref (q 9), .ref (q 10), .ref (q 11), .ref (q 12), .ref (q 13), .ref (q 14), .int (M_lines (M_rd v)), .int (M_size (M_rd v)), .int (M_at (M_rd v)), .int (M_place (M_rd v)), .int (M_sort (M_rd v)), .int (M_value (M_rd v)), .int (M_fault (M_rd v)), .int (M_faultPlace (M_rd v)), .int (M_lastFault (M_lf v)), .int (M_lastPlace (M_lf v)), .ref (q 15), .ref (q 16), .ref (q 17), .ref (q 18), .int (M_hasImage (M_im v)), .int (M_spanNow (M_rn v)), .ref (q 19), .int (M_placeThen (M_rn v)), .int (0 : Int32), .int (M_aloneSteps (M_al v)), .int (M_aloneOut (M_al v)), .ref (q 20), .ref (q 21), .ref (q 22), .ref (q 23), .int (M_shotAlarm (M_ex v)), .int (M_drawn (M_ex v))]), ((q 1), aI K 700 (M_tape (M_tp v))), ((q 2), aI K 20 (M_number (M_cd v))), ((q 3), aZ K 5 (M_isTold (M_rd v))), ((q 4), aI K 80 (M_codeSort (M_cd v))), ((q 5), aI K 80 (M_codeA (M_cd v))), ((q 6), aI K 80 (M_codeB (M_cd v))), ((q 7), aI K 80 (M_codeC (M_cd v))), ((q 8), aI K 80 (M_codeName (M_cd v))), ((q 9), aI K 80 (M_codePlace (M_cd v))), ((q 10), aI K 80 (M_codeTo (M_cd v))), ((q 11), aI K 280 (M_labelName (M_cd v))), ((q 12), aI K 280 (M_labelAt (M_cd v))), ((q 13), aI K 64 (M_data (M_cd v))), ((q 14), aZ K 32 (M_hasData (M_rd v))), ((q 15), aI K 314 (M_s (M_rn v))), ((q 16), aI K 314 (M_aside (M_ex v))), ((q 17), aI K 314 (M_further (M_ex v))), ((q 18), aI K 314 (M_image (M_im v))), ((q 19), aI K 3 (M_sizeNow (M_rn v))), ((q 20), aI K 8 f3), ((q 21), aI K 4 f9), ((q 22), aI K 32 (M_aloneMemory (M_al v))), ((q 23), aI K 999 (M_aloneOutput (M_al v)))]) ([(0, .ref (q 0)), (1, .int a1), (2, .int x8)]) ([]) 28 := by
    intro k28_46 hk28_46 n28
    induction n28 with
    | zero => intro x8 f9 hf; exact (nomatch (show (none : Option (T_M)) = some _ from hf))
    | succ n28 ih28 =>
      intro x8 f9 hf
      rw [f_M_alone_L28] at hf
      refine r_iload_n (pc := 28) cx dX10_alone_28 2 rfl ?_
      refine r_iconst (pc := 29) cx dX10_alone_29 ic_4 ?_
      refine r_icmp_ge (pc := 30) (tgt := 46) cx dX10_alone_30 (by decide) (fun h11 => ?_) (fun h11 => ?_)
      · have hf := ifp h11 hf
        refine r_loc (loc' := [(0, .ref (q 0)), (1, .int a1)]) [0, 1] rfl ?_
        exact hk28_46 _ hf
      · have hf := ifn h11 hf
        refine r_aload_n (pc := 33) cx dX10_alone_33 0 rfl ?_
        refine r_get (pc := 34) cx cf_X10 0 38 rfl (by decide) rfl wd_1354 dX10_alone_34 ?_
        refine r_iload_n (pc := 37) cx dX10_alone_37 2 rfl ?_
        refine r_iconst (pc := 38) cx dX10_alone_38 ic_0 ?_
        obtain ⟨h12, hf⟩ := chk_of hf
        obtain ⟨f13, ef13, hf⟩ := nm_of hf
        refine r_iast (pc := 39) (ws' := [((q 0), ob 9 [.int (M_thrown v), .ref (q 1), .int (M_taped (M_tp v)), .ref (q 2), .ref (q 3), .ref (q 4), .ref (q 5), .ref (q 6), .ref (q 7), .ref (q 8), .ref (q 9), .ref (q 10), .ref (q 11), .ref (q 12), .ref (q 13), .ref (q 14), .int (M_lines (M_rd v)), .int (M_size (M_rd v)), .int (M_at (M_rd v)), .int (M_place (M_rd v)), .int (M_sort (M_rd v)), .int (M_value (M_rd v)), .int (M_fault (M_rd v)), .int (M_faultPlace (M_rd v)), .int (M_lastFault (M_lf v)), .int (M_lastPlace (M_lf v)), .ref (q 15), .ref (q 16), .ref (q 17), .ref (q 18), .int (M_hasImage (M_im v)), .int (M_spanNow (M_rn v)), .ref (q 19), .int (M_placeThen (M_rn v)), .int (0 : Int32), .int (M_aloneSteps (M_al v)), .int (M_aloneOut (M_al v)), .ref (q 20), .ref (q 21), .ref (q 22), .ref (q 23), .int (M_shotAlarm (M_ex v)), .int (M_drawn (M_ex v))]), ((q 1), aI K 700 (M_tape (M_tp v))), ((q 2), aI K 20 (M_number (M_cd v))), ((q 3), aZ K 5 (M_isTold (M_rd v))), ((q 4), aI K 80 (M_codeSort (M_cd v))), ((q 5), aI K 80 (M_codeA (M_cd v))), ((q 6), aI K 80 (M_codeB (M_cd v))), ((q 7), aI K 80 (M_codeC (M_cd v))), ((q 8), aI K 80 (M_codeName (M_cd v))), ((q 9), aI K 80 (M_codePlace (M_cd v))), ((q 10), aI K 80 (M_codeTo (M_cd v))), ((q 11), aI K 280 (M_labelName (M_cd v))), ((q 12), aI K 280 (M_labelAt (M_cd v))), ((q 13), aI K 64 (M_data (M_cd v))), ((q 14), aZ K 32 (M_hasData (M_rd v))), ((q 15), aI K 314 (M_s (M_rn v))), ((q 16), aI K 314 (M_aside (M_ex v))), ((q 17), aI K 314 (M_further (M_ex v))), ((q 18), aI K 314 (M_image (M_im v))), ((q 19), aI K 3 (M_sizeNow (M_rn v))), ((q 20), aI K 8 f3), ((q 21), aI K 4 f13), ((q 22), aI K 32 (M_aloneMemory (M_al v))), ((q 23), aI K 999 (M_aloneOutput (M_al v)))]) cx 21 rfl h12 dX10_alone_39 ef13 rfl ?_
        obtain ⟨x14, ex14, hf⟩ := nm_of hf
        refine r_iinc (pc := 40) (loc' := [(2, .int x14), (0, .ref (q 0)), (1, .int a1)]) (v := x14) cx dX10_alone_40 2 rfl ((congrArg (fun z => x8 + z) ic_1).trans ex14.symm) (by decide) rfl ?_
        refine r_goto (pc := 43) (tgt := 28) cx dX10_alone_43 (by decide) ?_
        refine r_loc (loc' := [(0, .ref (q 0)), (1, .int a1), (2, .int x14)]) [1, 2, 0] rfl ?_
        exact ih28 _ _ hf
  refine r_loc (loc' := [(0, .ref (q 0)), (1, .int a1), (2, .int (0 : Int32))]) [1, 2, 0] rfl ?_
  refine hL28 _ (fun f10 hf => ?_) _ _ _ hf
  refine r_iconst (pc := 46) cx dX10_alone_46 ic_0 ?_
  refine r_istore_n (pc := 47) (loc' := [(2, .int (0 : Int32)), (0, .ref (q 0)), (1, .int a1)]) cx dX10_alone_47 rfl (by decide) rfl ?_
  have hL48 : ∀ (k48_72 : (Nat → Int32) → Option (T_M)), (∀ (f17 : (Nat → Int32)), k48_72 f17 = some o_v → WW p l e rm_M_alone s m args below meth c D A 3 0 0 (MQ below (QV D K A (cl_M K q o_v)) args s 0 0 A) ([((q 0), ob 9 [.int (M_thrown v), .ref (q 1), .int (M_taped (M_tp v)), .ref (q 2), .ref (q 3), .ref (q 4), .ref (q 5), .ref (q 6), .ref (q 7), .ref (q 8), .ref (q 9), .ref (q 10), .ref (q 11), .ref (q 12), .ref (q 13), .ref (q 14), .int (M_lines (M_rd v)), .int (M_size (M_rd v)), .int (M_at (M_rd v)), .int (M_place (M_rd v)), .int (M_sort (M_rd v)), .int (M_value (M_rd v)), .int (M_fault (M_rd v)), .int (M_faultPlace (M_rd v)), .int (M_lastFault (M_lf v)), .int (M_lastPlace (M_lf v)), .ref (q 15), .ref (q 16), .ref (q 17), .ref (q 18), .int (M_hasImage (M_im v)), .int (M_spanNow (M_rn v)), .ref (q 19), .int (M_placeThen (M_rn v)), .int (0 : Int32), .int (M_aloneSteps (M_al v)), .int (M_aloneOut (M_al v)), .ref (q 20), .ref (q 21), .ref (q 22), .ref (q 23), .int (M_shotAlarm (M_ex v)), .int (M_drawn (M_ex v))]), ((q 1), aI K 700 (M_tape (M_tp v))), ((q 2), aI K 20 (M_number (M_cd v))), ((q 3), aZ K 5 (M_isTold (M_rd v))), ((q 4), aI K 80 (M_codeSort (M_cd v))), ((q 5), aI K 80 (M_codeA (M_cd v))), ((q 6), aI K 80 (M_codeB (M_cd v))), ((q 7), aI K 80 (M_codeC (M_cd v))), ((q 8), aI K 80 (M_codeName (M_cd v))), ((q 9), aI K 80 (M_codePlace (M_cd v))), ((q 10), aI K 80 (M_codeTo (M_cd v))), ((q 11), aI K 280 (M_labelName (M_cd v))), ((q 12), aI K 280 (M_labelAt (M_cd v))), ((q 13), aI K 64 (M_data (M_cd v))), ((q 14), aZ K 32 (M_hasData (M_rd v))), ((q 15), aI K 314 (M_s (M_rn v))), ((q 16), aI K 314 (M_aside (M_ex v))), ((q 17), aI K 314 (M_further (M_ex v))), ((q 18), aI K 314 (M_image (M_im v))), ((q 19), aI K 3 (M_sizeNow (M_rn v))), ((q 20), aI K 8 f3), ((q 21), aI K 4 f10), ((q 22), aI K 32 f17), ((q 23), aI K 999 (M_aloneOutput (M_al v)))]) ([(0, .ref (q 0)), (1, .int a1)]) ([]) 72) → ∀ (n48 : Nat) (x15 : Int32) (f16 : (Nat → Int32)), f_M_alone_L48 v k48_72 n48 x15 f16 = some o_v → WW p l e rm_M_alone s m args below meth c D A 3 0 0 (MQ below (QV D K A (cl_M K q o_v)) args s 0 0 A) ([((q 0), ob 9 [.int (M_thrown v), .ref (q 1), .int (M_taped (M_tp v)), .ref (q 2), .ref (q 3), .ref (q 4), .ref (q 5), .ref (q 6), .ref (q 7), .ref (q 8), .ref (q 9), .ref (q 10), .ref (q 11), .ref (q 12), .ref (q 13), .ref (q 14), .int (M_lines (M_rd v)), .int (M_size (M_rd v)), .int (M_at (M_rd v)), .int (M_place (M_rd v)), .int (M_sort (M_rd v)), .int (M_value (M_rd v)), .int (M_fault (M_rd v)), .int (M_faultPlace (M_rd v)), .int (M_lastFault (M_lf v)), .int (M_lastPlace (M_lf v)), .ref (q 15), .ref (q 16), .ref (q 17), .ref (q 18), .int (M_hasImage (M_im v)), .int (M_spanNow (M_rn v)), .ref (q 19), .int (M_placeThen (M_rn v)), .int (0 : Int32), .int (M_aloneSteps (M_al v)), .int (M_aloneOut (M_al v)), .ref (q 20), .ref (q 21), .ref (q 22), .ref (q 23), .int (M_shotAlarm (M_ex v)), .int (M_drawn (M_ex v))]), ((q 1), aI K 700 (M_tape (M_tp v))), ((q 2), aI K 20 (M_number (M_cd v))), ((q 3), aZ K 5 (M_isTold (M_rd v))), ((q 4), aI K 80 (M_codeSort (M_cd v))), ((q 5), aI K 80 (M_codeA (M_cd v))), ((q 6), aI K 80 (M_codeB (M_cd v))), ((q 7), aI K 80 (M_codeC (M_cd v))), ((q 8), aI K 80 (M_codeName (M_cd v))), ((q 9), aI K 80 (M_codePlace (M_cd v))), ((q 10), aI K 80 (M_codeTo (M_cd v))), ((q 11), aI K 280 (M_labelName (M_cd v))), ((q 12), aI K 280 (M_labelAt (M_cd v))), ((q 13), aI K 64 (M_data (M_cd v))), ((q 14), aZ K 32 (M_hasData (M_rd v))), ((q 15), aI K 314 (M_s (M_rn v))), ((q 16), aI K 314 (M_aside (M_ex v))), ((q 17), aI K 314 (M_further (M_ex v))), ((q 18), aI K 314 (M_image (M_im v))), ((q 19), aI K 3 (M_sizeNow (M_rn v))), ((q 20), aI K 8 f3), ((q 21), aI K 4 f10), ((q 22), aI K 32 f16), ((q 23), aI K 999 (M_aloneOutput (M_al v)))]) ([(0, .ref (q 0)), (1, .int a1), (2, .int x15)]) ([]) 48 := by
    intro k48_72 hk48_72 n48
    induction n48 with
    | zero => intro x15 f16 hf; exact (nomatch (show (none : Option (T_M)) = some _ from hf))
    | succ n48 ih48 =>
      intro x15 f16 hf
      rw [f_M_alone_L48] at hf
      refine r_iload_n (pc := 48) cx dX10_alone_48 2 rfl ?_
      refine r_bipush (pc := 49) cx dX10_alone_49 bp_32 ?_
      refine r_icmp_ge (pc := 51) (tgt := 72) cx dX10_alone_51 (by decide) (fun h18 => ?_) (fun h18 => ?_)
      · have hf := ifp h18 hf
        refine r_loc (loc' := [(0, .ref (q 0)), (1, .int a1)]) [0, 1] rfl ?_
        exact hk48_72 _ hf
      · have hf := ifn h18 hf
        refine r_aload_n (pc := 54) cx dX10_alone_54 0 rfl ?_
        refine r_get (pc := 55) cx cf_X10 0 39 rfl (by decide) rfl wd_1355 dX10_alone_55 ?_
        refine r_iload_n (pc := 58) cx dX10_alone_58 2 rfl ?_
        refine r_aload_n (pc := 59) cx dX10_alone_59 0 rfl ?_
        refine r_get (pc := 60) cx cf_X10 0 14 rfl (by decide) rfl wd_1330 dX10_alone_60 ?_
        refine r_iload_n (pc := 63) cx dX10_alone_63 2 rfl ?_
        obtain ⟨h19, hf⟩ := chk_of hf
        refine r_iald (pc := 64) cx 13 rfl h19 dX10_alone_64 ?_
        obtain ⟨x20, ex20, hf⟩ := nm_of hf
        refine r_nm ex20 ?_
        obtain ⟨h21, hf⟩ := chk_of hf
        obtain ⟨f22, ef22, hf⟩ := nm_of hf
        refine r_iast (pc := 65) (ws' := [((q 0), ob 9 [.int (M_thrown v), .ref (q 1), .int (M_taped (M_tp v)), .ref (q 2), .ref (q 3), .ref (q 4), .ref (q 5), .ref (q 6), .ref (q 7), .ref (q 8), .ref (q 9), .ref (q 10), .ref (q 11), .ref (q 12), .ref (q 13), .ref (q 14), .int (M_lines (M_rd v)), .int (M_size (M_rd v)), .int (M_at (M_rd v)), .int (M_place (M_rd v)), .int (M_sort (M_rd v)), .int (M_value (M_rd v)), .int (M_fault (M_rd v)), .int (M_faultPlace (M_rd v)), .int (M_lastFault (M_lf v)), .int (M_lastPlace (M_lf v)), .ref (q 15), .ref (q 16), .ref (q 17), .ref (q 18), .int (M_hasImage (M_im v)), .int (M_spanNow (M_rn v)), .ref (q 19), .int (M_placeThen (M_rn v)), .int (0 : Int32), .int (M_aloneSteps (M_al v)), .int (M_aloneOut (M_al v)), .ref (q 20), .ref (q 21), .ref (q 22), .ref (q 23), .int (M_shotAlarm (M_ex v)), .int (M_drawn (M_ex v))]), ((q 1), aI K 700 (M_tape (M_tp v))), ((q 2), aI K 20 (M_number (M_cd v))), ((q 3), aZ K 5 (M_isTold (M_rd v))), ((q 4), aI K 80 (M_codeSort (M_cd v))), ((q 5), aI K 80 (M_codeA (M_cd v))), ((q 6), aI K 80 (M_codeB (M_cd v))), ((q 7), aI K 80 (M_codeC (M_cd v))), ((q 8), aI K 80 (M_codeName (M_cd v))), ((q 9), aI K 80 (M_codePlace (M_cd v))), ((q 10), aI K 80 (M_codeTo (M_cd v))), ((q 11), aI K 280 (M_labelName (M_cd v))), ((q 12), aI K 280 (M_labelAt (M_cd v))), ((q 13), aI K 64 (M_data (M_cd v))), ((q 14), aZ K 32 (M_hasData (M_rd v))), ((q 15), aI K 314 (M_s (M_rn v))), ((q 16), aI K 314 (M_aside (M_ex v))), ((q 17), aI K 314 (M_further (M_ex v))), ((q 18), aI K 314 (M_image (M_im v))), ((q 19), aI K 3 (M_sizeNow (M_rn v))), ((q 20), aI K 8 f3), ((q 21), aI K 4 f10), ((q 22), aI K 32 f22), ((q 23), aI K 999 (M_aloneOutput (M_al v)))]) cx 22 rfl h21 dX10_alone_65 ef22 rfl ?_
        obtain ⟨x23, ex23, hf⟩ := nm_of hf
        refine r_iinc (pc := 66) (loc' := [(2, .int x23), (0, .ref (q 0)), (1, .int a1)]) (v := x23) cx dX10_alone_66 2 rfl ((congrArg (fun z => x15 + z) ic_1).trans ex23.symm) (by decide) rfl ?_
        refine r_goto (pc := 69) (tgt := 48) cx dX10_alone_69 (by decide) ?_
        refine r_loc (loc' := [(0, .ref (q 0)), (1, .int a1), (2, .int x23)]) [1, 2, 0] rfl ?_
        exact ih48 _ _ hf
  refine r_loc (loc' := [(0, .ref (q 0)), (1, .int a1), (2, .int (0 : Int32))]) [1, 2, 0] rfl ?_
  refine hL48 _ (fun f17 hf => ?_) _ _ _ hf
  refine r_aload_n (pc := 72) cx dX10_alone_72 0 rfl ?_
  refine r_iload_n (pc := 73) cx dX10_alone_73 1 rfl ?_
  obtain ⟨v24, hc25, hf⟩ := bd_of hf
  refine r_Vv (pc := 74) (ws' := [((q 0), ob 9 [.int (M_thrown v24), .ref (q 1), .int (M_taped (M_tp v24)), .ref (q 2), .ref (q 3), .ref (q 4), .ref (q 5), .ref (q 6), .ref (q 7), .ref (q 8), .ref (q 9), .ref (q 10), .ref (q 11), .ref (q 12), .ref (q 13), .ref (q 14), .int (M_lines (M_rd v24)), .int (M_size (M_rd v24)), .int (M_at (M_rd v24)), .int (M_place (M_rd v24)), .int (M_sort (M_rd v24)), .int (M_value (M_rd v24)), .int (M_fault (M_rd v24)), .int (M_faultPlace (M_rd v24)), .int (M_lastFault (M_lf v24)), .int (M_lastPlace (M_lf v24)), .ref (q 15), .ref (q 16), .ref (q 17), .ref (q 18), .int (M_hasImage (M_im v24)), .int (M_spanNow (M_rn v24)), .ref (q 19), .int (M_placeThen (M_rn v24)), .int (M_alonePlace (M_al v24)), .int (M_aloneSteps (M_al v24)), .int (M_aloneOut (M_al v24)), .ref (q 20), .ref (q 21), .ref (q 22), .ref (q 23), .int (M_shotAlarm (M_ex v24)), .int (M_drawn (M_ex v24))]), ((q 1), aI K 700 (M_tape (M_tp v24))), ((q 2), aI K 20 (M_number (M_cd v24))), ((q 3), aZ K 5 (M_isTold (M_rd v24))), ((q 4), aI K 80 (M_codeSort (M_cd v24))), ((q 5), aI K 80 (M_codeA (M_cd v24))), ((q 6), aI K 80 (M_codeB (M_cd v24))), ((q 7), aI K 80 (M_codeC (M_cd v24))), ((q 8), aI K 80 (M_codeName (M_cd v24))), ((q 9), aI K 80 (M_codePlace (M_cd v24))), ((q 10), aI K 80 (M_codeTo (M_cd v24))), ((q 11), aI K 280 (M_labelName (M_cd v24))), ((q 12), aI K 280 (M_labelAt (M_cd v24))), ((q 13), aI K 64 (M_data (M_cd v24))), ((q 14), aZ K 32 (M_hasData (M_rd v24))), ((q 15), aI K 314 (M_s (M_rn v24))), ((q 16), aI K 314 (M_aside (M_ex v24))), ((q 17), aI K 314 (M_further (M_ex v24))), ((q 18), aI K 314 (M_image (M_im v24))), ((q 19), aI K 3 (M_sizeNow (M_rn v24))), ((q 20), aI K 8 (M_aloneRegister (M_al v24))), ((q 21), aI K 4 (M_aloneReal (M_al v24))), ((q 22), aI K 32 (M_aloneMemory (M_al v24))), ((q 23), aI K 999 (M_aloneOutput (M_al v24)))]) (nn := 24) cx [.int a1] [] (m_M_aloneGoes l D K q ((M_tp v), (M_rd v), (M_lf v), (M_cd v), (M_rn v), (M_ex v), (M_im v), ((0 : Int32), (M_aloneSteps (M_al v)), (M_aloneOut (M_al v)), f3, f10, f17, (M_aloneOutput (M_al v))), (M_thrown v)) a1 hc25) yv_X10_aloneGoes wd_1779 ⟨rfl, rfl⟩ (by decide) (fr_s (j := 0) rfl rfl rfl (fr_s (j := 1) rfl rfl rfl (fr_s (j := 2) rfl rfl rfl (fr_s (j := 3) rfl rfl rfl (fr_s (j := 4) rfl rfl rfl (fr_s (j := 5) rfl rfl rfl (fr_s (j := 6) rfl rfl rfl (fr_s (j := 7) rfl rfl rfl (fr_s (j := 8) rfl rfl rfl (fr_s (j := 9) rfl rfl rfl (fr_s (j := 10) rfl rfl rfl (fr_s (j := 11) rfl rfl rfl (fr_s (j := 12) rfl rfl rfl (fr_s (j := 13) rfl rfl rfl (fr_s (j := 14) rfl rfl rfl (fr_s (j := 15) rfl rfl rfl (fr_s (j := 16) rfl rfl rfl (fr_s (j := 17) rfl rfl rfl (fr_s (j := 18) rfl rfl rfl (fr_s (j := 19) rfl rfl rfl (fr_s (j := 20) rfl rfl rfl (fr_s (j := 21) rfl rfl rfl (fr_s (j := 22) rfl rfl rfl (fr_s (j := 23) rfl rfl rfl (fr_n))))))))))))))))))))))))) rfl (by decide) 0 rfl rfl rfl (Nat.le_of_ble_eq_true rfl) dX10_alone_74 ?_
  cases hf
  exact r_vret (pc := 77) cx rfl dX10_alone_77
theorem yv_X10_alone : YV yX10_alone cX10_alone 3 (none) 1 := ⟨⟨by decide +kernel, by decide +kernel, by decide +kernel⟩, wd_1778, wd_102, wd_1777, wd_79⟩
def f_M_plain (v : T_M) (a1 : Int32) (a2 : Int32) : Option (Int32 × T_M) :=
  (if a1 < (0 : Int32) then (some ((-1 : Int32), ((M_tp v), (M_rd v), (M_lf v), (M_cd v), (M_rn v), (M_ex v), (M_im v), (M_al v), (0 : Int32)))) else (if (999 : Int32) < a1 then (some ((-1 : Int32), ((M_tp v), (M_rd v), (M_lf v), (M_cd v), (M_rn v), (M_ex v), (M_im v), (M_al v), (0 : Int32)))) else (if a2 < (0 : Int32) then (some ((-1 : Int32), ((M_tp v), (M_rd v), (M_lf v), (M_cd v), (M_rn v), (M_ex v), (M_im v), (M_al v), (0 : Int32)))) else (if a2 ≤ (3 : Int32) then (bd (f_M_alone ((M_tp v), (M_rd v), (M_lf v), (M_cd v), (M_rn v), (M_ex v), (M_im v), (M_al v), (0 : Int32)) a1) fun (v5 : T_M) => (if a2 = (0 : Int32) then (some ((M_alonePlace (M_al v5)), v5)) else (if a2 = (1 : Int32) then (bd (f_M_isHaltedAt v5 (M_alonePlace (M_al v5))) fun (r10 : Int32) => (if r10 = (0 : Int32) then (some ((0 : Int32), v5)) else (some ((1 : Int32), v5)))) else (if a2 = (2 : Int32) then (some ((M_aloneSteps (M_al v5)), v5)) else (some ((M_aloneOut (M_al v5)), v5)))))) else (some ((-1 : Int32), ((M_tp v), (M_rd v), (M_lf v), (M_cd v), (M_rn v), (M_ex v), (M_im v), (M_al v), (0 : Int32))))))))
abbrev rm_M_plain : Room := { frames := 7, cells := 0, slots := 0, locals := 165 }
set_option maxRecDepth 100000 in
set_option maxHeartbeats 4000000 in
theorem m_M_plain (l : Launch) (D : va_G) (K : Nat → ClassId) (q : Nat → Nat) (v : T_M) (a1 : Int32) (a2 : Int32) {r_ : Int32} {o_v : T_M} (hf : f_M_plain v a1 a2 = some (r_, o_v)) : MI l yX10_plain cX10_plain 3 (some .int) rm_M_plain D K [.ref (q 0), .int a1, .int a2] (cl_M K q v) r_ (cl_M K q o_v) := by
  refine MI_of (loc0 := [(0, .ref (q 0)), (1, .int a1), (2, .int a2)]) (by decide +kernel) rfl (Nat.le_of_ble_eq_true rfl) ?_
  intro p e s m args below meth c A cx
  unfold f_M_plain at hf
  refine r_ws (ws' := [((q 0), ob 9 [.int (M_thrown v), .ref (q 1), .int (M_taped (M_tp v)), .ref (q 2), .ref (q 3), .ref (q 4), .ref (q 5), .ref (q 6), .ref (q 7), .ref (q 8), .ref (q 9), .ref (q 10), .ref (q 11), .ref (q 12), .ref (q 13), .ref (q 14), .int (M_lines (M_rd v)), .int (M_size (M_rd v)), .int (M_at (M_rd v)), .int (M_place (M_rd v)), .int (M_sort (M_rd v)), .int (M_value (M_rd v)), .int (M_fault (M_rd v)), .int (M_faultPlace (M_rd v)), .int (M_lastFault (M_lf v)), .int (M_lastPlace (M_lf v)), .ref (q 15), .ref (q 16), .ref (q 17), .ref (q 18), .int (M_hasImage (M_im v)), .int (M_spanNow (M_rn v)), .ref (q 19), .int (M_placeThen (M_rn v)), .int (M_alonePlace (M_al v)), .int (M_aloneSteps (M_al v)), .int (M_aloneOut (M_al v)), .ref (q 20), .ref (q 21), .ref (q 22), .ref (q 23), .int (M_shotAlarm (M_ex v)), .int (M_drawn (M_ex v))]), ((q 1), aI K 700 (M_tape (M_tp v))), ((q 2), aI K 20 (M_number (M_cd v))), ((q 3), aZ K 5 (M_isTold (M_rd v))), ((q 4), aI K 80 (M_codeSort (M_cd v))), ((q 5), aI K 80 (M_codeA (M_cd v))), ((q 6), aI K 80 (M_codeB (M_cd v))), ((q 7), aI K 80 (M_codeC (M_cd v))), ((q 8), aI K 80 (M_codeName (M_cd v))), ((q 9), aI K 80 (M_codePlace (M_cd v))), ((q 10), aI K 80 (M_codeTo (M_cd v))), ((q 11), aI K 280 (M_labelName (M_cd v))), ((q 12), aI K 280 (M_labelAt (M_cd v))), ((q 13), aI K 64 (M_data (M_cd v))), ((q 14), aZ K 32 (M_hasData (M_rd v))), ((q 15), aI K 314 (M_s (M_rn v))), ((q 16), aI K 314 (M_aside (M_ex v))), ((q 17), aI K 314 (M_further (M_ex v))), ((q 18), aI K 314 (M_image (M_im v))), ((q 19), aI K 3 (M_sizeNow (M_rn v))), ((q 20), aI K 8 (M_aloneRegister (M_al v))), ((q 21), aI K 4 (M_aloneReal (M_al v))), ((q 22), aI K 32 (M_aloneMemory (M_al v))), ((q 23), aI K 999 (M_aloneOutput (M_al v)))]) rfl ?_
  refine r_aload_n (pc := 0) cx dX10_plain_0 0 rfl ?_
  refine r_iconst (pc := 1) cx dX10_plain_1 ic_0 ?_
  refine r_putI (pc := 2) (ws' := [((q 0), ob 9 [.int (0 : Int32), .ref (q 1), .int (M_taped (M_tp v)), .ref (q 2), .ref (q 3), .ref (q 4), .ref (q 5), .ref (q 6), .ref (q 7), .ref (q 8), .ref (q 9), .ref (q 10), .ref (q 11), .ref (q 12), .ref (q 13), .ref (q 14), .int (M_lines (M_rd v)), .int (M_size (M_rd v)), .int (M_at (M_rd v)), .int (M_place (M_rd v)), .int (M_sort (M_rd v)), .int (M_value (M_rd v)), .int (M_fault (M_rd v)), .int (M_faultPlace (M_rd v)), .int (M_lastFault (M_lf v)), .int (M_lastPlace (M_lf v)), .ref (q 15), .ref (q 16), .ref (q 17), .ref (q 18), .int (M_hasImage (M_im v)), .int (M_spanNow (M_rn v)), .ref (q 19), .int (M_placeThen (M_rn v)), .int (M_alonePlace (M_al v)), .int (M_aloneSteps (M_al v)), .int (M_aloneOut (M_al v)), .ref (q 20), .ref (q 21), .ref (q 22), .ref (q 23), .int (M_shotAlarm (M_ex v)), .int (M_drawn (M_ex v))]), ((q 1), aI K 700 (M_tape (M_tp v))), ((q 2), aI K 20 (M_number (M_cd v))), ((q 3), aZ K 5 (M_isTold (M_rd v))), ((q 4), aI K 80 (M_codeSort (M_cd v))), ((q 5), aI K 80 (M_codeA (M_cd v))), ((q 6), aI K 80 (M_codeB (M_cd v))), ((q 7), aI K 80 (M_codeC (M_cd v))), ((q 8), aI K 80 (M_codeName (M_cd v))), ((q 9), aI K 80 (M_codePlace (M_cd v))), ((q 10), aI K 80 (M_codeTo (M_cd v))), ((q 11), aI K 280 (M_labelName (M_cd v))), ((q 12), aI K 280 (M_labelAt (M_cd v))), ((q 13), aI K 64 (M_data (M_cd v))), ((q 14), aZ K 32 (M_hasData (M_rd v))), ((q 15), aI K 314 (M_s (M_rn v))), ((q 16), aI K 314 (M_aside (M_ex v))), ((q 17), aI K 314 (M_further (M_ex v))), ((q 18), aI K 314 (M_image (M_im v))), ((q 19), aI K 3 (M_sizeNow (M_rn v))), ((q 20), aI K 8 (M_aloneRegister (M_al v))), ((q 21), aI K 4 (M_aloneReal (M_al v))), ((q 22), aI K 32 (M_aloneMemory (M_al v))), ((q 23), aI K 999 (M_aloneOutput (M_al v)))]) cx cf_X10 0 0 rfl (by decide) (Nat.le_of_ble_eq_true rfl) rfl pfd_I wd_1316 dX10_plain_2 rfl ?_
  refine r_iload_n (pc := 5) cx dX10_plain_5 1 rfl ?_
  refine r_if_lt (pc := 6) (tgt := 25) cx dX10_plain_6 (by decide) (fun h1 => ?_) (fun h1 => ?_)
  · have hf := ifp h1 hf
    refine r_iconst (pc := 25) cx dX10_plain_25 ic_m1 ?_
    cases hf
    exact r_iret (pc := 26) cx rfl rfl dX10_plain_26
  · have hf := ifn h1 hf
    refine r_iload_n (pc := 9) cx dX10_plain_9 1 rfl ?_
    refine r_sipush (pc := 10) cx dX10_plain_10 sp_999 ?_
    refine r_icmp_gt (pc := 13) (tgt := 25) cx dX10_plain_13 (by decide) (fun h2 => ?_) (fun h2 => ?_)
    · have hf := ifp h2 hf
      refine r_iconst (pc := 25) cx dX10_plain_25 ic_m1 ?_
      cases hf
      exact r_iret (pc := 26) cx rfl rfl dX10_plain_26
    · have hf := ifn h2 hf
      refine r_iload_n (pc := 16) cx dX10_plain_16 2 rfl ?_
      refine r_if_lt (pc := 17) (tgt := 25) cx dX10_plain_17 (by decide) (fun h3 => ?_) (fun h3 => ?_)
      · have hf := ifp h3 hf
        refine r_iconst (pc := 25) cx dX10_plain_25 ic_m1 ?_
        cases hf
        exact r_iret (pc := 26) cx rfl rfl dX10_plain_26
      · have hf := ifn h3 hf
        refine r_iload_n (pc := 20) cx dX10_plain_20 2 rfl ?_
        refine r_iconst (pc := 21) cx dX10_plain_21 ic_3 ?_
        refine r_icmp_le (pc := 22) (tgt := 27) cx dX10_plain_22 (by decide) (fun h4 => ?_) (fun h4 => ?_)
        · have hf := ifp h4 hf
          refine r_aload_n (pc := 27) cx dX10_plain_27 0 rfl ?_
          refine r_iload_n (pc := 28) cx dX10_plain_28 1 rfl ?_
          obtain ⟨v5, hc6, hf⟩ := bd_of hf
          refine r_Vv (pc := 29) (ws' := [((q 0), ob 9 [.int (M_thrown v5), .ref (q 1), .int (M_taped (M_tp v5)), .ref (q 2), .ref (q 3), .ref (q 4), .ref (q 5), .ref (q 6), .ref (q 7), .ref (q 8), .ref (q 9), .ref (q 10), .ref (q 11), .ref (q 12), .ref (q 13), .ref (q 14), .int (M_lines (M_rd v5)), .int (M_size (M_rd v5)), .int (M_at (M_rd v5)), .int (M_place (M_rd v5)), .int (M_sort (M_rd v5)), .int (M_value (M_rd v5)), .int (M_fault (M_rd v5)), .int (M_faultPlace (M_rd v5)), .int (M_lastFault (M_lf v5)), .int (M_lastPlace (M_lf v5)), .ref (q 15), .ref (q 16), .ref (q 17), .ref (q 18), .int (M_hasImage (M_im v5)), .int (M_spanNow (M_rn v5)), .ref (q 19), .int (M_placeThen (M_rn v5)), .int (M_alonePlace (M_al v5)), .int (M_aloneSteps (M_al v5)), .int (M_aloneOut (M_al v5)), .ref (q 20), .ref (q 21), .ref (q 22), .ref (q 23), .int (M_shotAlarm (M_ex v5)), .int (M_drawn (M_ex v5))]), ((q 1), aI K 700 (M_tape (M_tp v5))), ((q 2), aI K 20 (M_number (M_cd v5))), ((q 3), aZ K 5 (M_isTold (M_rd v5))), ((q 4), aI K 80 (M_codeSort (M_cd v5))), ((q 5), aI K 80 (M_codeA (M_cd v5))), ((q 6), aI K 80 (M_codeB (M_cd v5))), ((q 7), aI K 80 (M_codeC (M_cd v5))), ((q 8), aI K 80 (M_codeName (M_cd v5))), ((q 9), aI K 80 (M_codePlace (M_cd v5))), ((q 10), aI K 80 (M_codeTo (M_cd v5))), ((q 11), aI K 280 (M_labelName (M_cd v5))), ((q 12), aI K 280 (M_labelAt (M_cd v5))), ((q 13), aI K 64 (M_data (M_cd v5))), ((q 14), aZ K 32 (M_hasData (M_rd v5))), ((q 15), aI K 314 (M_s (M_rn v5))), ((q 16), aI K 314 (M_aside (M_ex v5))), ((q 17), aI K 314 (M_further (M_ex v5))), ((q 18), aI K 314 (M_image (M_im v5))), ((q 19), aI K 3 (M_sizeNow (M_rn v5))), ((q 20), aI K 8 (M_aloneRegister (M_al v5))), ((q 21), aI K 4 (M_aloneReal (M_al v5))), ((q 22), aI K 32 (M_aloneMemory (M_al v5))), ((q 23), aI K 999 (M_aloneOutput (M_al v5)))]) (nn := 24) cx [.int a1] [] (m_M_alone l D K q ((M_tp v), (M_rd v), (M_lf v), (M_cd v), (M_rn v), (M_ex v), (M_im v), (M_al v), (0 : Int32)) a1 hc6) yv_X10_alone wd_1775 ⟨rfl, rfl⟩ (by decide) (fr_s (j := 0) rfl rfl rfl (fr_s (j := 1) rfl rfl rfl (fr_s (j := 2) rfl rfl rfl (fr_s (j := 3) rfl rfl rfl (fr_s (j := 4) rfl rfl rfl (fr_s (j := 5) rfl rfl rfl (fr_s (j := 6) rfl rfl rfl (fr_s (j := 7) rfl rfl rfl (fr_s (j := 8) rfl rfl rfl (fr_s (j := 9) rfl rfl rfl (fr_s (j := 10) rfl rfl rfl (fr_s (j := 11) rfl rfl rfl (fr_s (j := 12) rfl rfl rfl (fr_s (j := 13) rfl rfl rfl (fr_s (j := 14) rfl rfl rfl (fr_s (j := 15) rfl rfl rfl (fr_s (j := 16) rfl rfl rfl (fr_s (j := 17) rfl rfl rfl (fr_s (j := 18) rfl rfl rfl (fr_s (j := 19) rfl rfl rfl (fr_s (j := 20) rfl rfl rfl (fr_s (j := 21) rfl rfl rfl (fr_s (j := 22) rfl rfl rfl (fr_s (j := 23) rfl rfl rfl (fr_n))))))))))))))))))))))))) rfl (by decide) 0 rfl rfl rfl (Nat.le_of_ble_eq_true rfl) dX10_plain_29 ?_
          refine r_iload_n (pc := 32) cx dX10_plain_32 2 rfl ?_
          refine r_if_ne (pc := 33) (tgt := 43) cx dX10_plain_33 (by decide) (fun h7 => ?_) (fun h7 => ?_)
          · have hf := ifn h7 hf
            refine r_iload_n (pc := 43) cx dX10_plain_43 2 rfl ?_
            refine r_iconst (pc := 44) cx dX10_plain_44 ic_1 ?_
            refine r_icmp_ne (pc := 45) (tgt := 67) cx dX10_plain_45 (by decide) (fun h8 => ?_) (fun h8 => ?_)
            · have hf := ifn h8 hf
              refine r_iload_n (pc := 67) cx dX10_plain_67 2 rfl ?_
              refine r_iconst (pc := 68) cx dX10_plain_68 ic_2 ?_
              refine r_icmp_ne (pc := 69) (tgt := 79) cx dX10_plain_69 (by decide) (fun h9 => ?_) (fun h9 => ?_)
              · have hf := ifn h9 hf
                refine r_aload_n (pc := 79) cx dX10_plain_79 0 rfl ?_
                refine r_get (pc := 80) cx cf_X10 0 36 rfl (by decide) rfl wd_1352 dX10_plain_80 ?_
                cases hf
                exact r_iret (pc := 83) cx rfl rfl dX10_plain_83
              · have hf := ifp h9 hf
                refine r_aload_n (pc := 72) cx dX10_plain_72 0 rfl ?_
                refine r_get (pc := 73) cx cf_X10 0 35 rfl (by decide) rfl wd_1351 dX10_plain_73 ?_
                refine r_goto (pc := 76) (tgt := 83) cx dX10_plain_76 (by decide) ?_
                cases hf
                exact r_iret (pc := 83) cx rfl rfl dX10_plain_83
            · have hf := ifp h8 hf
              refine r_aload_n (pc := 48) cx dX10_plain_48 0 rfl ?_
              refine r_aload_n (pc := 49) cx dX10_plain_49 0 rfl ?_
              refine r_get (pc := 50) cx cf_X10 0 34 rfl (by decide) rfl wd_1350 dX10_plain_50 ?_
              obtain ⟨r10, hc11, hf⟩ := bd_of hf
              refine r_Vi (pc := 53) (ws' := [((q 0), ob 9 [.int (M_thrown v5), .ref (q 1), .int (M_taped (M_tp v5)), .ref (q 2), .ref (q 3), .ref (q 4), .ref (q 5), .ref (q 6), .ref (q 7), .ref (q 8), .ref (q 9), .ref (q 10), .ref (q 11), .ref (q 12), .ref (q 13), .ref (q 14), .int (M_lines (M_rd v5)), .int (M_size (M_rd v5)), .int (M_at (M_rd v5)), .int (M_place (M_rd v5)), .int (M_sort (M_rd v5)), .int (M_value (M_rd v5)), .int (M_fault (M_rd v5)), .int (M_faultPlace (M_rd v5)), .int (M_lastFault (M_lf v5)), .int (M_lastPlace (M_lf v5)), .ref (q 15), .ref (q 16), .ref (q 17), .ref (q 18), .int (M_hasImage (M_im v5)), .int (M_spanNow (M_rn v5)), .ref (q 19), .int (M_placeThen (M_rn v5)), .int (M_alonePlace (M_al v5)), .int (M_aloneSteps (M_al v5)), .int (M_aloneOut (M_al v5)), .ref (q 20), .ref (q 21), .ref (q 22), .ref (q 23), .int (M_shotAlarm (M_ex v5)), .int (M_drawn (M_ex v5))]), ((q 1), aI K 700 (M_tape (M_tp v5))), ((q 2), aI K 20 (M_number (M_cd v5))), ((q 3), aZ K 5 (M_isTold (M_rd v5))), ((q 4), aI K 80 (M_codeSort (M_cd v5))), ((q 5), aI K 80 (M_codeA (M_cd v5))), ((q 6), aI K 80 (M_codeB (M_cd v5))), ((q 7), aI K 80 (M_codeC (M_cd v5))), ((q 8), aI K 80 (M_codeName (M_cd v5))), ((q 9), aI K 80 (M_codePlace (M_cd v5))), ((q 10), aI K 80 (M_codeTo (M_cd v5))), ((q 11), aI K 280 (M_labelName (M_cd v5))), ((q 12), aI K 280 (M_labelAt (M_cd v5))), ((q 13), aI K 64 (M_data (M_cd v5))), ((q 14), aZ K 32 (M_hasData (M_rd v5))), ((q 15), aI K 314 (M_s (M_rn v5))), ((q 16), aI K 314 (M_aside (M_ex v5))), ((q 17), aI K 314 (M_further (M_ex v5))), ((q 18), aI K 314 (M_image (M_im v5))), ((q 19), aI K 3 (M_sizeNow (M_rn v5))), ((q 20), aI K 8 (M_aloneRegister (M_al v5))), ((q 21), aI K 4 (M_aloneReal (M_al v5))), ((q 22), aI K 32 (M_aloneMemory (M_al v5))), ((q 23), aI K 999 (M_aloneOutput (M_al v5)))]) (nn := 24) cx [.int (M_alonePlace (M_al v5))] [] (m_M_isHaltedAt l D K q v5 (M_alonePlace (M_al v5)) hc11) yv_X10_isHaltedAt wd_1584 ⟨rfl, rfl⟩ (by decide) (fr_s (j := 0) rfl rfl rfl (fr_s (j := 1) rfl rfl rfl (fr_s (j := 2) rfl rfl rfl (fr_s (j := 3) rfl rfl rfl (fr_s (j := 4) rfl rfl rfl (fr_s (j := 5) rfl rfl rfl (fr_s (j := 6) rfl rfl rfl (fr_s (j := 7) rfl rfl rfl (fr_s (j := 8) rfl rfl rfl (fr_s (j := 9) rfl rfl rfl (fr_s (j := 10) rfl rfl rfl (fr_s (j := 11) rfl rfl rfl (fr_s (j := 12) rfl rfl rfl (fr_s (j := 13) rfl rfl rfl (fr_s (j := 14) rfl rfl rfl (fr_s (j := 15) rfl rfl rfl (fr_s (j := 16) rfl rfl rfl (fr_s (j := 17) rfl rfl rfl (fr_s (j := 18) rfl rfl rfl (fr_s (j := 19) rfl rfl rfl (fr_s (j := 20) rfl rfl rfl (fr_s (j := 21) rfl rfl rfl (fr_s (j := 22) rfl rfl rfl (fr_s (j := 23) rfl rfl rfl (fr_n))))))))))))))))))))))))) rfl (by decide) 0 rfl rfl rfl (Nat.le_of_ble_eq_true rfl) dX10_plain_53 ?_
              refine r_if_eq (pc := 56) (tgt := 63) cx dX10_plain_56 (by decide) (fun h12 => ?_) (fun h12 => ?_)
              · have hf := ifp h12 hf
                refine r_iconst (pc := 63) cx dX10_plain_63 ic_0 ?_
                refine r_goto (pc := 64) (tgt := 83) cx dX10_plain_64 (by decide) ?_
                cases hf
                exact r_iret (pc := 83) cx rfl rfl dX10_plain_83
              · have hf := ifn h12 hf
                refine r_iconst (pc := 59) cx dX10_plain_59 ic_1 ?_
                refine r_goto (pc := 60) (tgt := 83) cx dX10_plain_60 (by decide) ?_
                cases hf
                exact r_iret (pc := 83) cx rfl rfl dX10_plain_83
          · have hf := ifp h7 hf
            refine r_aload_n (pc := 36) cx dX10_plain_36 0 rfl ?_
            refine r_get (pc := 37) cx cf_X10 0 34 rfl (by decide) rfl wd_1350 dX10_plain_37 ?_
            refine r_goto (pc := 40) (tgt := 83) cx dX10_plain_40 (by decide) ?_
            cases hf
            exact r_iret (pc := 83) cx rfl rfl dX10_plain_83
        · have hf := ifn h4 hf
          refine r_iconst (pc := 25) cx dX10_plain_25 ic_m1 ?_
          cases hf
          exact r_iret (pc := 26) cx rfl rfl dX10_plain_26
theorem yv_X10_plain : YV yX10_plain cX10_plain 3 (some .int) 2 := ⟨⟨by decide +kernel, by decide +kernel, by decide +kernel⟩, wd_1774, wd_102, wd_1772, wd_1773⟩
def f_M_plainOf (v : T_M) (a1 : Int32) (a2 : Int32) (a3 : Int32) : Option (Int32 × T_M) :=
  (if a1 < (0 : Int32) then (some ((0 : Int32), ((M_tp v), (M_rd v), (M_lf v), (M_cd v), (M_rn v), (M_ex v), (M_im v), (M_al v), (0 : Int32)))) else (if (999 : Int32) < a1 then (some ((0 : Int32), ((M_tp v), (M_rd v), (M_lf v), (M_cd v), (M_rn v), (M_ex v), (M_im v), (M_al v), (0 : Int32)))) else (if (0 : Int32) ≤ a3 then (bd (f_M_alone ((M_tp v), (M_rd v), (M_lf v), (M_cd v), (M_rn v), (M_ex v), (M_im v), (M_al v), (0 : Int32)) a1) fun (v4 : T_M) => (if a2 = (0 : Int32) then (if (8 : Int32) ≤ a3 then (some ((0 : Int32), v4)) else (if ix a3 8 then (some (((M_aloneRegister (M_al v4)) a3.toNatClampNeg), v4)) else none)) else (if a2 = (1 : Int32) then (if (4 : Int32) ≤ a3 then (some ((0 : Int32), v4)) else (if ix a3 4 then (some (((M_aloneReal (M_al v4)) a3.toNatClampNeg), v4)) else none)) else (if a2 = (2 : Int32) then (if (32 : Int32) ≤ a3 then (some ((0 : Int32), v4)) else (if ix a3 32 then (some (((M_aloneMemory (M_al v4)) a3.toNatClampNeg), v4)) else none)) else (if a2 = (3 : Int32) then (if (M_aloneOut (M_al v4)) ≤ a3 then (some ((0 : Int32), v4)) else (if ix a3 999 then (some (((M_aloneOutput (M_al v4)) a3.toNatClampNeg), v4)) else none)) else (some ((0 : Int32), v4))))))) else (some ((0 : Int32), ((M_tp v), (M_rd v), (M_lf v), (M_cd v), (M_rn v), (M_ex v), (M_im v), (M_al v), (0 : Int32)))))))
abbrev rm_M_plainOf : Room := { frames := 7, cells := 0, slots := 0, locals := 165 }
set_option maxRecDepth 100000 in
set_option maxHeartbeats 4000000 in
theorem m_M_plainOf (l : Launch) (D : va_G) (K : Nat → ClassId) (q : Nat → Nat) (v : T_M) (a1 : Int32) (a2 : Int32) (a3 : Int32) {r_ : Int32} {o_v : T_M} (hf : f_M_plainOf v a1 a2 a3 = some (r_, o_v)) : MI l yX10_plainOf cX10_plainOf 4 (some .int) rm_M_plainOf D K [.ref (q 0), .int a1, .int a2, .int a3] (cl_M K q v) r_ (cl_M K q o_v) := by
  refine MI_of (loc0 := [(0, .ref (q 0)), (1, .int a1), (2, .int a2), (3, .int a3)]) (by decide +kernel) rfl (Nat.le_of_ble_eq_true rfl) ?_
  intro p e s m args below meth c A cx
  unfold f_M_plainOf at hf
  refine r_ws (ws' := [((q 0), ob 9 [.int (M_thrown v), .ref (q 1), .int (M_taped (M_tp v)), .ref (q 2), .ref (q 3), .ref (q 4), .ref (q 5), .ref (q 6), .ref (q 7), .ref (q 8), .ref (q 9), .ref (q 10), .ref (q 11), .ref (q 12), .ref (q 13), .ref (q 14), .int (M_lines (M_rd v)), .int (M_size (M_rd v)), .int (M_at (M_rd v)), .int (M_place (M_rd v)), .int (M_sort (M_rd v)), .int (M_value (M_rd v)), .int (M_fault (M_rd v)), .int (M_faultPlace (M_rd v)), .int (M_lastFault (M_lf v)), .int (M_lastPlace (M_lf v)), .ref (q 15), .ref (q 16), .ref (q 17), .ref (q 18), .int (M_hasImage (M_im v)), .int (M_spanNow (M_rn v)), .ref (q 19), .int (M_placeThen (M_rn v)), .int (M_alonePlace (M_al v)), .int (M_aloneSteps (M_al v)), .int (M_aloneOut (M_al v)), .ref (q 20), .ref (q 21), .ref (q 22), .ref (q 23), .int (M_shotAlarm (M_ex v)), .int (M_drawn (M_ex v))]), ((q 1), aI K 700 (M_tape (M_tp v))), ((q 2), aI K 20 (M_number (M_cd v))), ((q 3), aZ K 5 (M_isTold (M_rd v))), ((q 4), aI K 80 (M_codeSort (M_cd v))), ((q 5), aI K 80 (M_codeA (M_cd v))), ((q 6), aI K 80 (M_codeB (M_cd v))), ((q 7), aI K 80 (M_codeC (M_cd v))), ((q 8), aI K 80 (M_codeName (M_cd v))), ((q 9), aI K 80 (M_codePlace (M_cd v))), ((q 10), aI K 80 (M_codeTo (M_cd v))), ((q 11), aI K 280 (M_labelName (M_cd v))), ((q 12), aI K 280 (M_labelAt (M_cd v))), ((q 13), aI K 64 (M_data (M_cd v))), ((q 14), aZ K 32 (M_hasData (M_rd v))), ((q 15), aI K 314 (M_s (M_rn v))), ((q 16), aI K 314 (M_aside (M_ex v))), ((q 17), aI K 314 (M_further (M_ex v))), ((q 18), aI K 314 (M_image (M_im v))), ((q 19), aI K 3 (M_sizeNow (M_rn v))), ((q 20), aI K 8 (M_aloneRegister (M_al v))), ((q 21), aI K 4 (M_aloneReal (M_al v))), ((q 22), aI K 32 (M_aloneMemory (M_al v))), ((q 23), aI K 999 (M_aloneOutput (M_al v)))]) rfl ?_
  refine r_aload_n (pc := 0) cx dX10_plainOf_0 0 rfl ?_
  refine r_iconst (pc := 1) cx dX10_plainOf_1 ic_0 ?_
  refine r_putI (pc := 2) (ws' := [((q 0), ob 9 [.int (0 : Int32), .ref (q 1), .int (M_taped (M_tp v)), .ref (q 2), .ref (q 3), .ref (q 4), .ref (q 5), .ref (q 6), .ref (q 7), .ref (q 8), .ref (q 9), .ref (q 10), .ref (q 11), .ref (q 12), .ref (q 13), .ref (q 14), .int (M_lines (M_rd v)), .int (M_size (M_rd v)), .int (M_at (M_rd v)), .int (M_place (M_rd v)), .int (M_sort (M_rd v)), .int (M_value (M_rd v)), .int (M_fault (M_rd v)), .int (M_faultPlace (M_rd v)), .int (M_lastFault (M_lf v)), .int (M_lastPlace (M_lf v)), .ref (q 15), .ref (q 16), .ref (q 17), .ref (q 18), .int (M_hasImage (M_im v)), .int (M_spanNow (M_rn v)), .ref (q 19), .int (M_placeThen (M_rn v)), .int (M_alonePlace (M_al v)), .int (M_aloneSteps (M_al v)), .int (M_aloneOut (M_al v)), .ref (q 20), .ref (q 21), .ref (q 22), .ref (q 23), .int (M_shotAlarm (M_ex v)), .int (M_drawn (M_ex v))]), ((q 1), aI K 700 (M_tape (M_tp v))), ((q 2), aI K 20 (M_number (M_cd v))), ((q 3), aZ K 5 (M_isTold (M_rd v))), ((q 4), aI K 80 (M_codeSort (M_cd v))), ((q 5), aI K 80 (M_codeA (M_cd v))), ((q 6), aI K 80 (M_codeB (M_cd v))), ((q 7), aI K 80 (M_codeC (M_cd v))), ((q 8), aI K 80 (M_codeName (M_cd v))), ((q 9), aI K 80 (M_codePlace (M_cd v))), ((q 10), aI K 80 (M_codeTo (M_cd v))), ((q 11), aI K 280 (M_labelName (M_cd v))), ((q 12), aI K 280 (M_labelAt (M_cd v))), ((q 13), aI K 64 (M_data (M_cd v))), ((q 14), aZ K 32 (M_hasData (M_rd v))), ((q 15), aI K 314 (M_s (M_rn v))), ((q 16), aI K 314 (M_aside (M_ex v))), ((q 17), aI K 314 (M_further (M_ex v))), ((q 18), aI K 314 (M_image (M_im v))), ((q 19), aI K 3 (M_sizeNow (M_rn v))), ((q 20), aI K 8 (M_aloneRegister (M_al v))), ((q 21), aI K 4 (M_aloneReal (M_al v))), ((q 22), aI K 32 (M_aloneMemory (M_al v))), ((q 23), aI K 999 (M_aloneOutput (M_al v)))]) cx cf_X10 0 0 rfl (by decide) (Nat.le_of_ble_eq_true rfl) rfl pfd_I wd_1316 dX10_plainOf_2 rfl ?_
  refine r_iload_n (pc := 5) cx dX10_plainOf_5 1 rfl ?_
  refine r_if_lt (pc := 6) (tgt := 20) cx dX10_plainOf_6 (by decide) (fun h1 => ?_) (fun h1 => ?_)
  · have hf := ifp h1 hf
    refine r_iconst (pc := 20) cx dX10_plainOf_20 ic_0 ?_
    cases hf
    exact r_iret (pc := 21) cx rfl rfl dX10_plainOf_21
  · have hf := ifn h1 hf
    refine r_iload_n (pc := 9) cx dX10_plainOf_9 1 rfl ?_
    refine r_sipush (pc := 10) cx dX10_plainOf_10 sp_999 ?_
    refine r_icmp_gt (pc := 13) (tgt := 20) cx dX10_plainOf_13 (by decide) (fun h2 => ?_) (fun h2 => ?_)
    · have hf := ifp h2 hf
      refine r_iconst (pc := 20) cx dX10_plainOf_20 ic_0 ?_
      cases hf
      exact r_iret (pc := 21) cx rfl rfl dX10_plainOf_21
    · have hf := ifn h2 hf
      refine r_iload_n (pc := 16) cx dX10_plainOf_16 3 rfl ?_
      refine r_if_ge (pc := 17) (tgt := 22) cx dX10_plainOf_17 (by decide) (fun h3 => ?_) (fun h3 => ?_)
      · have hf := ifp h3 hf
        refine r_aload_n (pc := 22) cx dX10_plainOf_22 0 rfl ?_
        refine r_iload_n (pc := 23) cx dX10_plainOf_23 1 rfl ?_
        obtain ⟨v4, hc5, hf⟩ := bd_of hf
        refine r_Vv (pc := 24) (ws' := [((q 0), ob 9 [.int (M_thrown v4), .ref (q 1), .int (M_taped (M_tp v4)), .ref (q 2), .ref (q 3), .ref (q 4), .ref (q 5), .ref (q 6), .ref (q 7), .ref (q 8), .ref (q 9), .ref (q 10), .ref (q 11), .ref (q 12), .ref (q 13), .ref (q 14), .int (M_lines (M_rd v4)), .int (M_size (M_rd v4)), .int (M_at (M_rd v4)), .int (M_place (M_rd v4)), .int (M_sort (M_rd v4)), .int (M_value (M_rd v4)), .int (M_fault (M_rd v4)), .int (M_faultPlace (M_rd v4)), .int (M_lastFault (M_lf v4)), .int (M_lastPlace (M_lf v4)), .ref (q 15), .ref (q 16), .ref (q 17), .ref (q 18), .int (M_hasImage (M_im v4)), .int (M_spanNow (M_rn v4)), .ref (q 19), .int (M_placeThen (M_rn v4)), .int (M_alonePlace (M_al v4)), .int (M_aloneSteps (M_al v4)), .int (M_aloneOut (M_al v4)), .ref (q 20), .ref (q 21), .ref (q 22), .ref (q 23), .int (M_shotAlarm (M_ex v4)), .int (M_drawn (M_ex v4))]), ((q 1), aI K 700 (M_tape (M_tp v4))), ((q 2), aI K 20 (M_number (M_cd v4))), ((q 3), aZ K 5 (M_isTold (M_rd v4))), ((q 4), aI K 80 (M_codeSort (M_cd v4))), ((q 5), aI K 80 (M_codeA (M_cd v4))), ((q 6), aI K 80 (M_codeB (M_cd v4))), ((q 7), aI K 80 (M_codeC (M_cd v4))), ((q 8), aI K 80 (M_codeName (M_cd v4))), ((q 9), aI K 80 (M_codePlace (M_cd v4))), ((q 10), aI K 80 (M_codeTo (M_cd v4))), ((q 11), aI K 280 (M_labelName (M_cd v4))), ((q 12), aI K 280 (M_labelAt (M_cd v4))), ((q 13), aI K 64 (M_data (M_cd v4))), ((q 14), aZ K 32 (M_hasData (M_rd v4))), ((q 15), aI K 314 (M_s (M_rn v4))), ((q 16), aI K 314 (M_aside (M_ex v4))), ((q 17), aI K 314 (M_further (M_ex v4))), ((q 18), aI K 314 (M_image (M_im v4))), ((q 19), aI K 3 (M_sizeNow (M_rn v4))), ((q 20), aI K 8 (M_aloneRegister (M_al v4))), ((q 21), aI K 4 (M_aloneReal (M_al v4))), ((q 22), aI K 32 (M_aloneMemory (M_al v4))), ((q 23), aI K 999 (M_aloneOutput (M_al v4)))]) (nn := 24) cx [.int a1] [] (m_M_alone l D K q ((M_tp v), (M_rd v), (M_lf v), (M_cd v), (M_rn v), (M_ex v), (M_im v), (M_al v), (0 : Int32)) a1 hc5) yv_X10_alone wd_1775 ⟨rfl, rfl⟩ (by decide) (fr_s (j := 0) rfl rfl rfl (fr_s (j := 1) rfl rfl rfl (fr_s (j := 2) rfl rfl rfl (fr_s (j := 3) rfl rfl rfl (fr_s (j := 4) rfl rfl rfl (fr_s (j := 5) rfl rfl rfl (fr_s (j := 6) rfl rfl rfl (fr_s (j := 7) rfl rfl rfl (fr_s (j := 8) rfl rfl rfl (fr_s (j := 9) rfl rfl rfl (fr_s (j := 10) rfl rfl rfl (fr_s (j := 11) rfl rfl rfl (fr_s (j := 12) rfl rfl rfl (fr_s (j := 13) rfl rfl rfl (fr_s (j := 14) rfl rfl rfl (fr_s (j := 15) rfl rfl rfl (fr_s (j := 16) rfl rfl rfl (fr_s (j := 17) rfl rfl rfl (fr_s (j := 18) rfl rfl rfl (fr_s (j := 19) rfl rfl rfl (fr_s (j := 20) rfl rfl rfl (fr_s (j := 21) rfl rfl rfl (fr_s (j := 22) rfl rfl rfl (fr_s (j := 23) rfl rfl rfl (fr_n))))))))))))))))))))))))) rfl (by decide) 0 rfl rfl rfl (Nat.le_of_ble_eq_true rfl) dX10_plainOf_24 ?_
        refine r_iload_n (pc := 27) cx dX10_plainOf_27 2 rfl ?_
        refine r_if_ne (pc := 28) (tgt := 48) cx dX10_plainOf_28 (by decide) (fun h6 => ?_) (fun h6 => ?_)
        · have hf := ifn h6 hf
          refine r_iload_n (pc := 48) cx dX10_plainOf_48 2 rfl ?_
          refine r_iconst (pc := 49) cx dX10_plainOf_49 ic_1 ?_
          refine r_icmp_ne (pc := 50) (tgt := 69) cx dX10_plainOf_50 (by decide) (fun h7 => ?_) (fun h7 => ?_)
          · have hf := ifn h7 hf
            refine r_iload_n (pc := 69) cx dX10_plainOf_69 2 rfl ?_
            refine r_iconst (pc := 70) cx dX10_plainOf_70 ic_2 ?_
            refine r_icmp_ne (pc := 71) (tgt := 91) cx dX10_plainOf_71 (by decide) (fun h8 => ?_) (fun h8 => ?_)
            · have hf := ifn h8 hf
              refine r_iload_n (pc := 91) cx dX10_plainOf_91 2 rfl ?_
              refine r_iconst (pc := 92) cx dX10_plainOf_92 ic_3 ?_
              refine r_icmp_ne (pc := 93) (tgt := 113) cx dX10_plainOf_93 (by decide) (fun h9 => ?_) (fun h9 => ?_)
              · have hf := ifn h9 hf
                refine r_iconst (pc := 113) cx dX10_plainOf_113 ic_0 ?_
                cases hf
                exact r_iret (pc := 114) cx rfl rfl dX10_plainOf_114
              · have hf := ifp h9 hf
                refine r_iload_n (pc := 96) cx dX10_plainOf_96 3 rfl ?_
                refine r_aload_n (pc := 97) cx dX10_plainOf_97 0 rfl ?_
                refine r_get (pc := 98) cx cf_X10 0 36 rfl (by decide) rfl wd_1352 dX10_plainOf_98 ?_
                refine r_icmp_ge (pc := 101) (tgt := 113) cx dX10_plainOf_101 (by decide) (fun h10 => ?_) (fun h10 => ?_)
                · have hf := ifp h10 hf
                  refine r_iconst (pc := 113) cx dX10_plainOf_113 ic_0 ?_
                  cases hf
                  exact r_iret (pc := 114) cx rfl rfl dX10_plainOf_114
                · have hf := ifn h10 hf
                  refine r_aload_n (pc := 104) cx dX10_plainOf_104 0 rfl ?_
                  refine r_get (pc := 105) cx cf_X10 0 40 rfl (by decide) rfl wd_1356 dX10_plainOf_105 ?_
                  refine r_iload_n (pc := 108) cx dX10_plainOf_108 3 rfl ?_
                  obtain ⟨h11, hf⟩ := chk_of hf
                  refine r_iald (pc := 109) cx 23 rfl h11 dX10_plainOf_109 ?_
                  refine r_goto (pc := 110) (tgt := 114) cx dX10_plainOf_110 (by decide) ?_
                  cases hf
                  exact r_iret (pc := 114) cx rfl rfl dX10_plainOf_114
            · have hf := ifp h8 hf
              refine r_iload_n (pc := 74) cx dX10_plainOf_74 3 rfl ?_
              refine r_bipush (pc := 75) cx dX10_plainOf_75 bp_32 ?_
              refine r_icmp_ge (pc := 77) (tgt := 89) cx dX10_plainOf_77 (by decide) (fun h12 => ?_) (fun h12 => ?_)
              · have hf := ifp h12 hf
                refine r_iconst (pc := 89) cx dX10_plainOf_89 ic_0 ?_
                cases hf
                exact r_iret (pc := 90) cx rfl rfl dX10_plainOf_90
              · have hf := ifn h12 hf
                refine r_aload_n (pc := 80) cx dX10_plainOf_80 0 rfl ?_
                refine r_get (pc := 81) cx cf_X10 0 39 rfl (by decide) rfl wd_1355 dX10_plainOf_81 ?_
                refine r_iload_n (pc := 84) cx dX10_plainOf_84 3 rfl ?_
                obtain ⟨h13, hf⟩ := chk_of hf
                refine r_iald (pc := 85) cx 22 rfl h13 dX10_plainOf_85 ?_
                refine r_goto (pc := 86) (tgt := 90) cx dX10_plainOf_86 (by decide) ?_
                cases hf
                exact r_iret (pc := 90) cx rfl rfl dX10_plainOf_90
          · have hf := ifp h7 hf
            refine r_iload_n (pc := 53) cx dX10_plainOf_53 3 rfl ?_
            refine r_iconst (pc := 54) cx dX10_plainOf_54 ic_4 ?_
            refine r_icmp_ge (pc := 55) (tgt := 67) cx dX10_plainOf_55 (by decide) (fun h14 => ?_) (fun h14 => ?_)
            · have hf := ifp h14 hf
              refine r_iconst (pc := 67) cx dX10_plainOf_67 ic_0 ?_
              cases hf
              exact r_iret (pc := 68) cx rfl rfl dX10_plainOf_68
            · have hf := ifn h14 hf
              refine r_aload_n (pc := 58) cx dX10_plainOf_58 0 rfl ?_
              refine r_get (pc := 59) cx cf_X10 0 38 rfl (by decide) rfl wd_1354 dX10_plainOf_59 ?_
              refine r_iload_n (pc := 62) cx dX10_plainOf_62 3 rfl ?_
              obtain ⟨h15, hf⟩ := chk_of hf
              refine r_iald (pc := 63) cx 21 rfl h15 dX10_plainOf_63 ?_
              refine r_goto (pc := 64) (tgt := 68) cx dX10_plainOf_64 (by decide) ?_
              cases hf
              exact r_iret (pc := 68) cx rfl rfl dX10_plainOf_68
        · have hf := ifp h6 hf
          refine r_iload_n (pc := 31) cx dX10_plainOf_31 3 rfl ?_
          refine r_bipush (pc := 32) cx dX10_plainOf_32 bp_8 ?_
          refine r_icmp_ge (pc := 34) (tgt := 46) cx dX10_plainOf_34 (by decide) (fun h16 => ?_) (fun h16 => ?_)
          · have hf := ifp h16 hf
            refine r_iconst (pc := 46) cx dX10_plainOf_46 ic_0 ?_
            cases hf
            exact r_iret (pc := 47) cx rfl rfl dX10_plainOf_47
          · have hf := ifn h16 hf
            refine r_aload_n (pc := 37) cx dX10_plainOf_37 0 rfl ?_
            refine r_get (pc := 38) cx cf_X10 0 37 rfl (by decide) rfl wd_1353 dX10_plainOf_38 ?_
            refine r_iload_n (pc := 41) cx dX10_plainOf_41 3 rfl ?_
            obtain ⟨h17, hf⟩ := chk_of hf
            refine r_iald (pc := 42) cx 20 rfl h17 dX10_plainOf_42 ?_
            refine r_goto (pc := 43) (tgt := 47) cx dX10_plainOf_43 (by decide) ?_
            cases hf
            exact r_iret (pc := 47) cx rfl rfl dX10_plainOf_47
      · have hf := ifn h3 hf
        refine r_iconst (pc := 20) cx dX10_plainOf_20 ic_0 ?_
        cases hf
        exact r_iret (pc := 21) cx rfl rfl dX10_plainOf_21
theorem yv_X10_plainOf : YV yX10_plainOf cX10_plainOf 4 (some .int) 3 := ⟨⟨by decide +kernel, by decide +kernel, by decide +kernel⟩, wd_1790, wd_102, wd_1788, wd_1789⟩
def f_M_strays_L30 (v : T_M) (a1 : Int32) (k30_62 : (Nat → Int32) → Option (Int32 × T_M)) : Nat → Int32 → (Nat → Int32) → Option (Int32 × T_M)
  | 0, _, _ => none
  | n30 + 1, x6, f7 =>
    (if (8 : Int32) ≤ x6 then (k30_62 f7) else (if ix (((30 : Int32) + ((8 : Int32) * a1)) + x6) 314 then (nm ((M_s (M_rn v)) ((((30 : Int32) + ((8 : Int32) * a1)) + x6)).toNatClampNeg) fun (x11 : Int32) => (if ix x6 8 then (nm (upd f7 x6.toNatClampNeg x11) fun (f13 : Nat → Int32) => (nm (x6 + (1 : Int32)) fun (x14 : Int32) => (f_M_strays_L30 v a1 k30_62 n30 x14 f13))) else none)) else none))
def f_M_strays_L64 (v : T_M) (a1 : Int32) (k64_94 : (Nat → Int32) → Option (Int32 × T_M)) : Nat → Int32 → (Nat → Int32) → Option (Int32 × T_M)
  | 0, _, _ => none
  | n64 + 1, x15, f16 =>
    (if (4 : Int32) ≤ x15 then (k64_94 f16) else (if ix (((46 : Int32) + ((4 : Int32) * a1)) + x15) 314 then (nm ((M_s (M_rn v)) ((((46 : Int32) + ((4 : Int32) * a1)) + x15)).toNatClampNeg) fun (x20 : Int32) => (if ix x15 4 then (nm (upd f16 x15.toNatClampNeg x20) fun (f22 : Nat → Int32) => (nm (x15 + (1 : Int32)) fun (x23 : Int32) => (f_M_strays_L64 v a1 k64_94 n64 x23 f22))) else none)) else none))
def f_M_strays_L96 (v : T_M) (k96_124 : (Nat → Int32) → Option (Int32 × T_M)) : Nat → Int32 → (Nat → Int32) → Option (Int32 × T_M)
  | 0, _, _ => none
  | n96 + 1, x24, f25 =>
    (if (32 : Int32) ≤ x24 then (k96_124 f25) else (if ix ((146 : Int32) + x24) 314 then (nm ((M_s (M_rn v)) (((146 : Int32) + x24)).toNatClampNeg) fun (x29 : Int32) => (if ix x24 32 then (nm (upd f25 x24.toNatClampNeg x29) fun (f31 : Nat → Int32) => (nm (x24 + (1 : Int32)) fun (x32 : Int32) => (f_M_strays_L96 v k96_124 n96 x32 f31))) else none)) else none))
def f_M_strays_L159 (a1 : Int32) (v34 : T_M) (k159_201 : Int32 → Option (Int32 × T_M)) : Nat → Int32 → Int32 → Option (Int32 × T_M)
  | 0, _, _ => none
  | n159 + 1, x39, x40 =>
    (if (8 : Int32) ≤ x40 then (k159_201 x39) else (if ix x40 8 then (if ix (((4 : Int32) + ((8 : Int32) * a1)) + x40) 314 then (if ((M_aloneRegister (M_al v34)) x40.toNatClampNeg) = ((M_s (M_rn v34)) ((((4 : Int32) + ((8 : Int32) * a1)) + x40)).toNatClampNeg) then (nm (x39 + (0 : Int32)) fun (x48 : Int32) => (nm (x40 + (1 : Int32)) fun (x49 : Int32) => (f_M_strays_L159 a1 v34 k159_201 n159 x48 x49))) else (nm (x39 + (1 : Int32)) fun (x46 : Int32) => (nm (x40 + (1 : Int32)) fun (x47 : Int32) => (f_M_strays_L159 a1 v34 k159_201 n159 x46 x47)))) else none) else none))
def f_M_strays_L203 (a1 : Int32) (v34 : T_M) (k203_244 : Int32 → Option (Int32 × T_M)) : Nat → Int32 → Int32 → Option (Int32 × T_M)
  | 0, _, _ => none
  | n203 + 1, x50, x51 =>
    (if (4 : Int32) ≤ x51 then (k203_244 x50) else (if ix x51 4 then (if ix (((20 : Int32) + ((4 : Int32) * a1)) + x51) 314 then (if ((M_aloneReal (M_al v34)) x51.toNatClampNeg) = ((M_s (M_rn v34)) ((((20 : Int32) + ((4 : Int32) * a1)) + x51)).toNatClampNeg) then (nm (x50 + (0 : Int32)) fun (x59 : Int32) => (nm (x51 + (1 : Int32)) fun (x60 : Int32) => (f_M_strays_L203 a1 v34 k203_244 n203 x59 x60))) else (nm (x50 + (1 : Int32)) fun (x57 : Int32) => (nm (x51 + (1 : Int32)) fun (x58 : Int32) => (f_M_strays_L203 a1 v34 k203_244 n203 x57 x58)))) else none) else none))
def f_M_strays (v : T_M) (a1 : Int32) : Option (Int32 × T_M) :=
  (bd (f_M_isIn a1 (2 : Int32)) fun (r1 : Int32) => (if r1 = (0 : Int32) then (some ((-1 : Int32), ((M_tp v), (M_rd v), (M_lf v), (M_cd v), (M_rn v), (M_ex v), (M_im v), (M_al v), (0 : Int32)))) else (if ix ((28 : Int32) + a1) 314 then (nm ((M_s (M_rn v)) (((28 : Int32) + a1)).toNatClampNeg) fun (x5 : Int32) => (f_M_strays_L30 v a1 (fun (f8 : (Nat → Int32)) => (f_M_strays_L64 v a1 (fun (f17 : (Nat → Int32)) => (f_M_strays_L96 v (fun (f26 : (Nat → Int32)) => (if ix ((2 : Int32) + a1) 314 then (bd (f_M_aloneGoes ((M_tp v), (M_rd v), (M_lf v), (M_cd v), (M_rn v), (M_ex v), (M_im v), (x5, (M_aloneSteps (M_al v)), (M_aloneOut (M_al v)), f8, f17, f26, (M_aloneOutput (M_al v))), (0 : Int32)) ((M_s (M_rn v)) (((2 : Int32) + a1)).toNatClampNeg)) fun (v34 : T_M) => (if ix ((0 : Int32) + a1) 314 then (nm (fun (y37 : Int32) => ((f_M_strays_L159 a1 v34 (fun (x41 : Int32) => (f_M_strays_L203 a1 v34 (fun (x52 : Int32) => (some (x52, v34))) LF x41 (0 : Int32))) LF y37 (0 : Int32)) : Option (Int32 × T_M))) fun J38 => (if (M_alonePlace (M_al v34)) = ((M_s (M_rn v34)) (((0 : Int32) + a1)).toNatClampNeg) then (J38 (0 : Int32)) else (J38 (1 : Int32)))) else none)) else none)) LF (0 : Int32) (M_aloneMemory (M_al v)))) LF (0 : Int32) (M_aloneReal (M_al v)))) LF (0 : Int32) (M_aloneRegister (M_al v)))) else none)))
abbrev rm_M_strays : Room := { frames := 6, cells := 0, slots := 0, locals := 143 }
set_option maxRecDepth 100000 in
set_option maxHeartbeats 4000000 in
theorem m_M_strays (l : Launch) (D : va_G) (K : Nat → ClassId) (q : Nat → Nat) (v : T_M) (a1 : Int32) {r_ : Int32} {o_v : T_M} (hf : f_M_strays v a1 = some (r_, o_v)) : MI l yX10_strays cX10_strays 4 (some .int) rm_M_strays D K [.ref (q 0), .int a1] (cl_M K q v) r_ (cl_M K q o_v) := by
  refine MI_of (loc0 := [(0, .ref (q 0)), (1, .int a1)]) (by decide +kernel) rfl (Nat.le_of_ble_eq_true rfl) ?_
  intro p e s m args below meth c A cx
  unfold f_M_strays at hf
  refine r_ws (ws' := [((q 0), ob 9 [.int (M_thrown v), .ref (q 1), .int (M_taped (M_tp v)), .ref (q 2), .ref (q 3), .ref (q 4), .ref (q 5), .ref (q 6), .ref (q 7), .ref (q 8), .ref (q 9), .ref (q 10), .ref (q 11), .ref (q 12), .ref (q 13), .ref (q 14), .int (M_lines (M_rd v)), .int (M_size (M_rd v)), .int (M_at (M_rd v)), .int (M_place (M_rd v)), .int (M_sort (M_rd v)), .int (M_value (M_rd v)), .int (M_fault (M_rd v)), .int (M_faultPlace (M_rd v)), .int (M_lastFault (M_lf v)), .int (M_lastPlace (M_lf v)), .ref (q 15), .ref (q 16), .ref (q 17), .ref (q 18), .int (M_hasImage (M_im v)), .int (M_spanNow (M_rn v)), .ref (q 19), .int (M_placeThen (M_rn v)), .int (M_alonePlace (M_al v)), .int (M_aloneSteps (M_al v)), .int (M_aloneOut (M_al v)), .ref (q 20), .ref (q 21), .ref (q 22), .ref (q 23), .int (M_shotAlarm (M_ex v)), .int (M_drawn (M_ex v))]), ((q 1), aI K 700 (M_tape (M_tp v))), ((q 2), aI K 20 (M_number (M_cd v))), ((q 3), aZ K 5 (M_isTold (M_rd v))), ((q 4), aI K 80 (M_codeSort (M_cd v))), ((q 5), aI K 80 (M_codeA (M_cd v))), ((q 6), aI K 80 (M_codeB (M_cd v))), ((q 7), aI K 80 (M_codeC (M_cd v))), ((q 8), aI K 80 (M_codeName (M_cd v))), ((q 9), aI K 80 (M_codePlace (M_cd v))), ((q 10), aI K 80 (M_codeTo (M_cd v))), ((q 11), aI K 280 (M_labelName (M_cd v))), ((q 12), aI K 280 (M_labelAt (M_cd v))), ((q 13), aI K 64 (M_data (M_cd v))), ((q 14), aZ K 32 (M_hasData (M_rd v))), ((q 15), aI K 314 (M_s (M_rn v))), ((q 16), aI K 314 (M_aside (M_ex v))), ((q 17), aI K 314 (M_further (M_ex v))), ((q 18), aI K 314 (M_image (M_im v))), ((q 19), aI K 3 (M_sizeNow (M_rn v))), ((q 20), aI K 8 (M_aloneRegister (M_al v))), ((q 21), aI K 4 (M_aloneReal (M_al v))), ((q 22), aI K 32 (M_aloneMemory (M_al v))), ((q 23), aI K 999 (M_aloneOutput (M_al v)))]) rfl ?_
  refine r_aload_n (pc := 0) cx dX10_strays_0 0 rfl ?_
  refine r_iconst (pc := 1) cx dX10_strays_1 ic_0 ?_
  refine r_putI (pc := 2) (ws' := [((q 0), ob 9 [.int (0 : Int32), .ref (q 1), .int (M_taped (M_tp v)), .ref (q 2), .ref (q 3), .ref (q 4), .ref (q 5), .ref (q 6), .ref (q 7), .ref (q 8), .ref (q 9), .ref (q 10), .ref (q 11), .ref (q 12), .ref (q 13), .ref (q 14), .int (M_lines (M_rd v)), .int (M_size (M_rd v)), .int (M_at (M_rd v)), .int (M_place (M_rd v)), .int (M_sort (M_rd v)), .int (M_value (M_rd v)), .int (M_fault (M_rd v)), .int (M_faultPlace (M_rd v)), .int (M_lastFault (M_lf v)), .int (M_lastPlace (M_lf v)), .ref (q 15), .ref (q 16), .ref (q 17), .ref (q 18), .int (M_hasImage (M_im v)), .int (M_spanNow (M_rn v)), .ref (q 19), .int (M_placeThen (M_rn v)), .int (M_alonePlace (M_al v)), .int (M_aloneSteps (M_al v)), .int (M_aloneOut (M_al v)), .ref (q 20), .ref (q 21), .ref (q 22), .ref (q 23), .int (M_shotAlarm (M_ex v)), .int (M_drawn (M_ex v))]), ((q 1), aI K 700 (M_tape (M_tp v))), ((q 2), aI K 20 (M_number (M_cd v))), ((q 3), aZ K 5 (M_isTold (M_rd v))), ((q 4), aI K 80 (M_codeSort (M_cd v))), ((q 5), aI K 80 (M_codeA (M_cd v))), ((q 6), aI K 80 (M_codeB (M_cd v))), ((q 7), aI K 80 (M_codeC (M_cd v))), ((q 8), aI K 80 (M_codeName (M_cd v))), ((q 9), aI K 80 (M_codePlace (M_cd v))), ((q 10), aI K 80 (M_codeTo (M_cd v))), ((q 11), aI K 280 (M_labelName (M_cd v))), ((q 12), aI K 280 (M_labelAt (M_cd v))), ((q 13), aI K 64 (M_data (M_cd v))), ((q 14), aZ K 32 (M_hasData (M_rd v))), ((q 15), aI K 314 (M_s (M_rn v))), ((q 16), aI K 314 (M_aside (M_ex v))), ((q 17), aI K 314 (M_further (M_ex v))), ((q 18), aI K 314 (M_image (M_im v))), ((q 19), aI K 3 (M_sizeNow (M_rn v))), ((q 20), aI K 8 (M_aloneRegister (M_al v))), ((q 21), aI K 4 (M_aloneReal (M_al v))), ((q 22), aI K 32 (M_aloneMemory (M_al v))), ((q 23), aI K 999 (M_aloneOutput (M_al v)))]) cx cf_X10 0 0 rfl (by decide) (Nat.le_of_ble_eq_true rfl) rfl pfd_I wd_1316 dX10_strays_2 rfl ?_
  refine r_iload_n (pc := 5) cx dX10_strays_5 1 rfl ?_
  refine r_iconst (pc := 6) cx dX10_strays_6 ic_2 ?_
  obtain ⟨r1, hc2, hf⟩ := bd_of hf
  refine r_Si (pc := 7) (ws' := [((q 0), ob 9 [.int (0 : Int32), .ref (q 1), .int (M_taped (M_tp v)), .ref (q 2), .ref (q 3), .ref (q 4), .ref (q 5), .ref (q 6), .ref (q 7), .ref (q 8), .ref (q 9), .ref (q 10), .ref (q 11), .ref (q 12), .ref (q 13), .ref (q 14), .int (M_lines (M_rd v)), .int (M_size (M_rd v)), .int (M_at (M_rd v)), .int (M_place (M_rd v)), .int (M_sort (M_rd v)), .int (M_value (M_rd v)), .int (M_fault (M_rd v)), .int (M_faultPlace (M_rd v)), .int (M_lastFault (M_lf v)), .int (M_lastPlace (M_lf v)), .ref (q 15), .ref (q 16), .ref (q 17), .ref (q 18), .int (M_hasImage (M_im v)), .int (M_spanNow (M_rn v)), .ref (q 19), .int (M_placeThen (M_rn v)), .int (M_alonePlace (M_al v)), .int (M_aloneSteps (M_al v)), .int (M_aloneOut (M_al v)), .ref (q 20), .ref (q 21), .ref (q 22), .ref (q 23), .int (M_shotAlarm (M_ex v)), .int (M_drawn (M_ex v))]), ((q 1), aI K 700 (M_tape (M_tp v))), ((q 2), aI K 20 (M_number (M_cd v))), ((q 3), aZ K 5 (M_isTold (M_rd v))), ((q 4), aI K 80 (M_codeSort (M_cd v))), ((q 5), aI K 80 (M_codeA (M_cd v))), ((q 6), aI K 80 (M_codeB (M_cd v))), ((q 7), aI K 80 (M_codeC (M_cd v))), ((q 8), aI K 80 (M_codeName (M_cd v))), ((q 9), aI K 80 (M_codePlace (M_cd v))), ((q 10), aI K 80 (M_codeTo (M_cd v))), ((q 11), aI K 280 (M_labelName (M_cd v))), ((q 12), aI K 280 (M_labelAt (M_cd v))), ((q 13), aI K 64 (M_data (M_cd v))), ((q 14), aZ K 32 (M_hasData (M_rd v))), ((q 15), aI K 314 (M_s (M_rn v))), ((q 16), aI K 314 (M_aside (M_ex v))), ((q 17), aI K 314 (M_further (M_ex v))), ((q 18), aI K 314 (M_image (M_im v))), ((q 19), aI K 3 (M_sizeNow (M_rn v))), ((q 20), aI K 8 (M_aloneRegister (M_al v))), ((q 21), aI K 4 (M_aloneReal (M_al v))), ((q 22), aI K 32 (M_aloneMemory (M_al v))), ((q 23), aI K 999 (M_aloneOutput (M_al v)))]) (nn := 0) cx [.int a1, .int (2 : Int32)] [] (m_M_isIn l D K a1 (2 : Int32) hc2) ys_X10_isIn wd_1737 ⟨rfl, rfl⟩ (by decide) (fr_k (fr_k (fr_k (fr_k (fr_k (fr_k (fr_k (fr_k (fr_k (fr_k (fr_k (fr_k (fr_k (fr_k (fr_k (fr_k (fr_k (fr_k (fr_k (fr_k (fr_k (fr_k (fr_k (fr_k (fr_n))))))))))))))))))))))))) rfl (by decide) rfl (Nat.le_of_ble_eq_true rfl) dX10_strays_7 ?_
  refine r_if_ne (pc := 10) (tgt := 15) cx dX10_strays_10 (by decide) (fun h3 => ?_) (fun h3 => ?_)
  · have hf := ifn h3 hf
    refine r_aload_n (pc := 15) cx dX10_strays_15 0 rfl ?_
    refine r_aload_n (pc := 16) cx dX10_strays_16 0 rfl ?_
    refine r_get (pc := 17) cx cf_X10 0 26 rfl (by decide) rfl wd_1342 dX10_strays_17 ?_
    refine r_bipush (pc := 20) cx dX10_strays_20 bp_28 ?_
    refine r_iload_n (pc := 22) cx dX10_strays_22 1 rfl ?_
    refine r_iadd (pc := 23) cx dX10_strays_23 ?_
    obtain ⟨h4, hf⟩ := chk_of hf
    refine r_iald (pc := 24) cx 15 rfl h4 dX10_strays_24 ?_
    obtain ⟨x5, ex5, hf⟩ := nm_of hf
    refine r_nm ex5 ?_
    refine r_putI (pc := 25) (ws' := [((q 0), ob 9 [.int (0 : Int32), .ref (q 1), .int (M_taped (M_tp v)), .ref (q 2), .ref (q 3), .ref (q 4), .ref (q 5), .ref (q 6), .ref (q 7), .ref (q 8), .ref (q 9), .ref (q 10), .ref (q 11), .ref (q 12), .ref (q 13), .ref (q 14), .int (M_lines (M_rd v)), .int (M_size (M_rd v)), .int (M_at (M_rd v)), .int (M_place (M_rd v)), .int (M_sort (M_rd v)), .int (M_value (M_rd v)), .int (M_fault (M_rd v)), .int (M_faultPlace (M_rd v)), .int (M_lastFault (M_lf v)), .int (M_lastPlace (M_lf v)), .ref (q 15), .ref (q 16), .ref (q 17), .ref (q 18), .int (M_hasImage (M_im v)), .int (M_spanNow (M_rn v)), .ref (q 19), .int (M_placeThen (M_rn v)), .int x5, .int (M_aloneSteps (M_al v)), .int (M_aloneOut (M_al v)), .ref (q 20), .ref (q 21), .ref (q 22), .ref (q 23), .int (M_shotAlarm (M_ex v)), .int (M_drawn (M_ex v))]), ((q 1), aI K 700 (M_tape (M_tp v))), ((q 2), aI K 20 (M_number (M_cd v))), ((q 3), aZ K 5 (M_isTold (M_rd v))), ((q 4), aI K 80 (M_codeSort (M_cd v))), ((q 5), aI K 80 (M_codeA (M_cd v))), ((q 6), aI K 80 (M_codeB (M_cd v))), ((q 7), aI K 80 (M_codeC (M_cd v))), ((q 8), aI K 80 (M_codeName (M_cd v))), ((q 9), aI K 80 (M_codePlace (M_cd v))), ((q 10), aI K 80 (M_codeTo (M_cd v))), ((q 11), aI K 280 (M_labelName (M_cd v))), ((q 12), aI K 280 (M_labelAt (M_cd v))), ((q 13), aI K 64 (M_data (M_cd v))), ((q 14), aZ K 32 (M_hasData (M_rd v))), ((q 15), aI K 314 (M_s (M_rn v))), ((q 16), aI K 314 (M_aside (M_ex v))), ((q 17), aI K 314 (M_further (M_ex v))), ((q 18), aI K 314 (M_image (M_im v))), ((q 19), aI K 3 (M_sizeNow (M_rn v))), ((q 20), aI K 8 (M_aloneRegister (M_al v))), ((q 21), aI K 4 (M_aloneReal (M_al v))), ((q 22), aI K 32 (M_aloneMemory (M_al v))), ((q 23), aI K 999 (M_aloneOutput (M_al v)))]) cx cf_X10 0 34 rfl (by decide) (Nat.le_of_ble_eq_true rfl) rfl pfd_I wd_1350 dX10_strays_25 rfl ?_
    refine r_iconst (pc := 28) cx dX10_strays_28 ic_0 ?_
    refine r_istore_n (pc := 29) (loc' := [(2, .int (0 : Int32)), (0, .ref (q 0)), (1, .int a1)]) cx dX10_strays_29 rfl (by decide) rfl ?_
    have hL30 : ∀ (k30_62 : (Nat → Int32) → Option (Int32 × T_M)), (∀ (f8 : (Nat → Int32)), k30_62 f8 = some (r_, o_v) → WW p l e rm_M_strays s m args below meth c D A 4 0 0 (MQ below (QI D K A r_ (cl_M K q o_v)) args s 0 0 A) ([((q 0), ob 9 [.int (0 : Int32), .ref (q 1), .int (M_taped (M_tp v)), .ref (q 2), .ref (q 3), .ref (q 4), .ref (q 5), .ref (q 6), .ref (q 7), .ref (q 8), .ref (q 9), .ref (q 10), .ref (q 11), .ref (q 12), .ref (q 13), .ref (q 14), .int (M_lines (M_rd v)), .int (M_size (M_rd v)), .int (M_at (M_rd v)), .int (M_place (M_rd v)), .int (M_sort (M_rd v)), .int (M_value (M_rd v)), .int (M_fault (M_rd v)), .int (M_faultPlace (M_rd v)), .int (M_lastFault (M_lf v)), .int (M_lastPlace (M_lf v)), .ref (q 15), .ref (q 16), .ref (q 17), .ref (q 18), .int (M_hasImage (M_im v)), .int (M_spanNow (M_rn v)), .ref (q 19), .int (M_placeThen (M_rn v)), .int x5, .int (M_aloneSteps (M_al v)), .int (M_aloneOut (M_al v)), .ref (q 20), .ref (q 21), .ref (q 22), .ref (q 23), .int (M_shotAlarm (M_ex v)), .int (M_drawn (M_ex v))]), ((q 1), aI K 700 (M_tape (M_tp v))), ((q 2), aI K 20 (M_number (M_cd v))), ((q 3), aZ K 5 (M_isTold (M_rd v))), ((q 4), aI K 80 (M_codeSort (M_cd v))), ((q 5), aI K 80 (M_codeA (M_cd v))), ((q 6), aI K 80 (M_codeB (M_cd v))), ((q 7), aI K 80 (M_codeC (M_cd v))), ((q 8), aI K 80 (M_codeName (M_cd v))), ((q 9), aI K 80 (M_codePlace (M_cd v))), ((q 10), aI K 80 (M_codeTo (M_cd v))), ((q 11), aI K 280 (M_labelName (M_cd v))), ((q 12), aI K 280 (M_labelAt (M_cd v))), ((q 13), aI K 64 (M_data (M_cd v))), ((q 14), aZ K 32 (M_hasData (M_rd v))), ((q 15), aI K 314 (M_s (M_rn v))), ((q 16), aI K 314 (M_aside (M_ex v))), ((q 17), aI K 314 (M_further (M_ex v))), ((q 18), aI K 314 (M_image (M_im v))), ((q 19), aI K 3 (M_sizeNow (M_rn v))), ((q 20), aI K 8 f8), ((q 21), aI K 4 (M_aloneReal (M_al v))), ((q 22), aI K 32 (M_aloneMemory (M_al v))), ((q 23), aI K 999 (M_aloneOutput (M_al v)))]) ([(0, .ref (q 0)), (1, .int a1)]) ([]) 62) → ∀ (n30 : Nat) (x6 : Int32) (f7 : (Nat → Int32)), f_M_strays_L30 v a1 k30_62 n30 x6 f7 = some (r_, o_v) → WW p l e rm_M_strays s m args below meth c D A 4 0 0 (MQ below (QI D K A r_ (cl_M K q o_v)) args s 0 0 A) ([((q 0), ob 9 [.int (0 : Int32), .ref (q 1), .int (M_taped (M_tp v)), .ref (q 2), .ref (q 3), .ref (q 4), .ref (q 5), .ref (q 6), .ref (q 7), .ref (q 8), .ref (q 9), .ref (q 10), .ref (q 11), .ref (q 12), .ref (q 13), .ref (q 14), .int (M_lines (M_rd v)), .int (M_size (M_rd v)), .int (M_at (M_rd v)), .int (M_place (M_rd v)), .int (M_sort (M_rd v)), .int (M_value (M_rd v)), .int (M_fault (M_rd v)), .int (M_faultPlace (M_rd v)), .int (M_lastFault (M_lf v)), .int (M_lastPlace (M_lf v)), .ref (q 15), .ref (q 16), .ref (q 17), .ref (q 18), .int (M_hasImage (M_im v)), .int (M_spanNow (M_rn v)), .ref (q 19), .int (M_placeThen (M_rn v)), .int x5, .int (M_aloneSteps (M_al v)), .int (M_aloneOut (M_al v)), .ref (q 20), .ref (q 21), .ref (q 22), .ref (q 23), .int (M_shotAlarm (M_ex v)), .int (M_drawn (M_ex v))]), ((q 1), aI K 700 (M_tape (M_tp v))), ((q 2), aI K 20 (M_number (M_cd v))), ((q 3), aZ K 5 (M_isTold (M_rd v))), ((q 4), aI K 80 (M_codeSort (M_cd v))), ((q 5), aI K 80 (M_codeA (M_cd v))), ((q 6), aI K 80 (M_codeB (M_cd v))), ((q 7), aI K 80 (M_codeC (M_cd v))), ((q 8), aI K 80 (M_codeName (M_cd v))), ((q 9), aI K 80 (M_codePlace (M_cd v))), ((q 10), aI K 80 (M_codeTo (M_cd v))), ((q 11), aI K 280 (M_labelName (M_cd v))), ((q 12), aI K 280 (M_labelAt (M_cd v))), ((q 13), aI K 64 (M_data (M_cd v))), ((q 14), aZ K 32 (M_hasData (M_rd v))), ((q 15), aI K 314 (M_s (M_rn v))), ((q 16), aI K 314 (M_aside (M_ex v))), ((q 17), aI K 314 (M_further (M_ex v))), ((q 18), aI K 314 (M_image (M_im v))), ((q 19), aI K 3 (M_sizeNow (M_rn v))), ((q 20), aI K 8 f7), ((q 21), aI K 4 (M_aloneReal (M_al v))), ((q 22), aI K 32 (M_aloneMemory (M_al v))), ((q 23), aI K 999 (M_aloneOutput (M_al v)))]) ([(0, .ref (q 0)), (1, .int a1), (2, .int x6)]) ([]) 30 := by
      intro k30_62 hk30_62 n30
      induction n30 with
      | zero => intro x6 f7 hf; exact (nomatch (show (none : Option (Int32 × T_M)) = some _ from hf))
      | succ n30 ih30 =>
        intro x6 f7 hf
        rw [f_M_strays_L30] at hf
        refine r_iload_n (pc := 30) cx dX10_strays_30 2 rfl ?_
        refine r_bipush (pc := 31) cx dX10_strays_31 bp_8 ?_
        refine r_icmp_ge (pc := 33) (tgt := 62) cx dX10_strays_33 (by decide) (fun h9 => ?_) (fun h9 => ?_)
        · have hf := ifp h9 hf
          refine r_loc (loc' := [(0, .ref (q 0)), (1, .int a1)]) [0, 1] rfl ?_
          exact hk30_62 _ hf
        · have hf := ifn h9 hf
          refine r_aload_n (pc := 36) cx dX10_strays_36 0 rfl ?_
          refine r_get (pc := 37) cx cf_X10 0 37 rfl (by decide) rfl wd_1353 dX10_strays_37 ?_
          refine r_iload_n (pc := 40) cx dX10_strays_40 2 rfl ?_
          refine r_aload_n (pc := 41) cx dX10_strays_41 0 rfl ?_
          refine r_get (pc := 42) cx cf_X10 0 26 rfl (by decide) rfl wd_1342 dX10_strays_42 ?_
          refine r_bipush (pc := 45) cx dX10_strays_45 bp_30 ?_
          refine r_bipush (pc := 47) cx dX10_strays_47 bp_8 ?_
          refine r_iload_n (pc := 49) cx dX10_strays_49 1 rfl ?_
          refine r_imul (pc := 50) cx dX10_strays_50 ?_
          refine r_iadd (pc := 51) cx dX10_strays_51 ?_
          refine r_iload_n (pc := 52) cx dX10_strays_52 2 rfl ?_
          refine r_iadd (pc := 53) cx dX10_strays_53 ?_
          obtain ⟨h10, hf⟩ := chk_of hf
          refine r_iald (pc := 54) cx 15 rfl h10 dX10_strays_54 ?_
          obtain ⟨x11, ex11, hf⟩ := nm_of hf
          refine r_nm ex11 ?_
          obtain ⟨h12, hf⟩ := chk_of hf
          obtain ⟨f13, ef13, hf⟩ := nm_of hf
          refine r_iast (pc := 55) (ws' := [((q 0), ob 9 [.int (0 : Int32), .ref (q 1), .int (M_taped (M_tp v)), .ref (q 2), .ref (q 3), .ref (q 4), .ref (q 5), .ref (q 6), .ref (q 7), .ref (q 8), .ref (q 9), .ref (q 10), .ref (q 11), .ref (q 12), .ref (q 13), .ref (q 14), .int (M_lines (M_rd v)), .int (M_size (M_rd v)), .int (M_at (M_rd v)), .int (M_place (M_rd v)), .int (M_sort (M_rd v)), .int (M_value (M_rd v)), .int (M_fault (M_rd v)), .int (M_faultPlace (M_rd v)), .int (M_lastFault (M_lf v)), .int (M_lastPlace (M_lf v)), .ref (q 15), .ref (q 16), .ref (q 17), .ref (q 18), .int (M_hasImage (M_im v)), .int (M_spanNow (M_rn v)), .ref (q 19), .int (M_placeThen (M_rn v)), .int x5, .int (M_aloneSteps (M_al v)), .int (M_aloneOut (M_al v)), .ref (q 20), .ref (q 21), .ref (q 22), .ref (q 23), .int (M_shotAlarm (M_ex v)), .int (M_drawn (M_ex v))]), ((q 1), aI K 700 (M_tape (M_tp v))), ((q 2), aI K 20 (M_number (M_cd v))), ((q 3), aZ K 5 (M_isTold (M_rd v))), ((q 4), aI K 80 (M_codeSort (M_cd v))), ((q 5), aI K 80 (M_codeA (M_cd v))), ((q 6), aI K 80 (M_codeB (M_cd v))), ((q 7), aI K 80 (M_codeC (M_cd v))), ((q 8), aI K 80 (M_codeName (M_cd v))), ((q 9), aI K 80 (M_codePlace (M_cd v))), ((q 10), aI K 80 (M_codeTo (M_cd v))), ((q 11), aI K 280 (M_labelName (M_cd v))), ((q 12), aI K 280 (M_labelAt (M_cd v))), ((q 13), aI K 64 (M_data (M_cd v))), ((q 14), aZ K 32 (M_hasData (M_rd v))), ((q 15), aI K 314 (M_s (M_rn v))), ((q 16), aI K 314 (M_aside (M_ex v))), ((q 17), aI K 314 (M_further (M_ex v))), ((q 18), aI K 314 (M_image (M_im v))), ((q 19), aI K 3 (M_sizeNow (M_rn v))), ((q 20), aI K 8 f13), ((q 21), aI K 4 (M_aloneReal (M_al v))), ((q 22), aI K 32 (M_aloneMemory (M_al v))), ((q 23), aI K 999 (M_aloneOutput (M_al v)))]) cx 20 rfl h12 dX10_strays_55 ef13 rfl ?_
          obtain ⟨x14, ex14, hf⟩ := nm_of hf
          refine r_iinc (pc := 56) (loc' := [(2, .int x14), (0, .ref (q 0)), (1, .int a1)]) (v := x14) cx dX10_strays_56 2 rfl ((congrArg (fun z => x6 + z) ic_1).trans ex14.symm) (by decide) rfl ?_
          refine r_goto (pc := 59) (tgt := 30) cx dX10_strays_59 (by decide) ?_
          refine r_loc (loc' := [(0, .ref (q 0)), (1, .int a1), (2, .int x14)]) [1, 2, 0] rfl ?_
          exact ih30 _ _ hf
    refine r_loc (loc' := [(0, .ref (q 0)), (1, .int a1), (2, .int (0 : Int32))]) [1, 2, 0] rfl ?_
    refine hL30 _ (fun f8 hf => ?_) _ _ _ hf
    refine r_iconst (pc := 62) cx dX10_strays_62 ic_0 ?_
    refine r_istore_n (pc := 63) (loc' := [(2, .int (0 : Int32)), (0, .ref (q 0)), (1, .int a1)]) cx dX10_strays_63 rfl (by decide) rfl ?_
    have hL64 : ∀ (k64_94 : (Nat → Int32) → Option (Int32 × T_M)), (∀ (f17 : (Nat → Int32)), k64_94 f17 = some (r_, o_v) → WW p l e rm_M_strays s m args below meth c D A 4 0 0 (MQ below (QI D K A r_ (cl_M K q o_v)) args s 0 0 A) ([((q 0), ob 9 [.int (0 : Int32), .ref (q 1), .int (M_taped (M_tp v)), .ref (q 2), .ref (q 3), .ref (q 4), .ref (q 5), .ref (q 6), .ref (q 7), .ref (q 8), .ref (q 9), .ref (q 10), .ref (q 11), .ref (q 12), .ref (q 13), .ref (q 14), .int (M_lines (M_rd v)), .int (M_size (M_rd v)), .int (M_at (M_rd v)), .int (M_place (M_rd v)), .int (M_sort (M_rd v)), .int (M_value (M_rd v)), .int (M_fault (M_rd v)), .int (M_faultPlace (M_rd v)), .int (M_lastFault (M_lf v)), .int (M_lastPlace (M_lf v)), .ref (q 15), .ref (q 16), .ref (q 17), .ref (q 18), .int (M_hasImage (M_im v)), .int (M_spanNow (M_rn v)), .ref (q 19), .int (M_placeThen (M_rn v)), .int x5, .int (M_aloneSteps (M_al v)), .int (M_aloneOut (M_al v)), .ref (q 20), .ref (q 21), .ref (q 22), .ref (q 23), .int (M_shotAlarm (M_ex v)), .int (M_drawn (M_ex v))]), ((q 1), aI K 700 (M_tape (M_tp v))), ((q 2), aI K 20 (M_number (M_cd v))), ((q 3), aZ K 5 (M_isTold (M_rd v))), ((q 4), aI K 80 (M_codeSort (M_cd v))), ((q 5), aI K 80 (M_codeA (M_cd v))), ((q 6), aI K 80 (M_codeB (M_cd v))), ((q 7), aI K 80 (M_codeC (M_cd v))), ((q 8), aI K 80 (M_codeName (M_cd v))), ((q 9), aI K 80 (M_codePlace (M_cd v))), ((q 10), aI K 80 (M_codeTo (M_cd v))), ((q 11), aI K 280 (M_labelName (M_cd v))), ((q 12), aI K 280 (M_labelAt (M_cd v))), ((q 13), aI K 64 (M_data (M_cd v))), ((q 14), aZ K 32 (M_hasData (M_rd v))), ((q 15), aI K 314 (M_s (M_rn v))), ((q 16), aI K 314 (M_aside (M_ex v))), ((q 17), aI K 314 (M_further (M_ex v))), ((q 18), aI K 314 (M_image (M_im v))), ((q 19), aI K 3 (M_sizeNow (M_rn v))), ((q 20), aI K 8 f8), ((q 21), aI K 4 f17), ((q 22), aI K 32 (M_aloneMemory (M_al v))), ((q 23), aI K 999 (M_aloneOutput (M_al v)))]) ([(0, .ref (q 0)), (1, .int a1)]) ([]) 94) → ∀ (n64 : Nat) (x15 : Int32) (f16 : (Nat → Int32)), f_M_strays_L64 v a1 k64_94 n64 x15 f16 = some (r_, o_v) → WW p l e rm_M_strays s m args below meth c D A 4 0 0 (MQ below (QI D K A r_ (cl_M K q o_v)) args s 0 0 A) ([((q 0), ob 9 [.int (0 : Int32), .ref (q 1), .int (M_taped (M_tp v)), .ref (q 2), .ref (q 3), .ref (q 4), .ref (q 5), .ref (q 6), .ref (q 7), .ref (q 8), .ref (q 9), .ref (q 10), .ref (q 11), .ref (q 12), .ref (q 13), .ref (q 14), .int (M_lines (M_rd v)), .int (M_size (M_rd v)), .int (M_at (M_rd v)), .int (M_place (M_rd v)), .int (M_sort (M_rd v)), .int (M_value (M_rd v)), .int (M_fault (M_rd v)), .int (M_faultPlace (M_rd v)), .int (M_lastFault (M_lf v)), .int (M_lastPlace (M_lf v)), .ref (q 15), .ref (q 16), .ref (q 17), .ref (q 18), .int (M_hasImage (M_im v)), .int (M_spanNow (M_rn v)), .ref (q 19), .int (M_placeThen (M_rn v)), .int x5, .int (M_aloneSteps (M_al v)), .int (M_aloneOut (M_al v)), .ref (q 20), .ref (q 21), .ref (q 22), .ref (q 23), .int (M_shotAlarm (M_ex v)), .int (M_drawn (M_ex v))]), ((q 1), aI K 700 (M_tape (M_tp v))), ((q 2), aI K 20 (M_number (M_cd v))), ((q 3), aZ K 5 (M_isTold (M_rd v))), ((q 4), aI K 80 (M_codeSort (M_cd v))), ((q 5), aI K 80 (M_codeA (M_cd v))), ((q 6), aI K 80 (M_codeB (M_cd v))), ((q 7), aI K 80 (M_codeC (M_cd v))), ((q 8), aI K 80 (M_codeName (M_cd v))), ((q 9), aI K 80 (M_codePlace (M_cd v))), ((q 10), aI K 80 (M_codeTo (M_cd v))), ((q 11), aI K 280 (M_labelName (M_cd v))), ((q 12), aI K 280 (M_labelAt (M_cd v))), ((q 13), aI K 64 (M_data (M_cd v))), ((q 14), aZ K 32 (M_hasData (M_rd v))), ((q 15), aI K 314 (M_s (M_rn v))), ((q 16), aI K 314 (M_aside (M_ex v))), ((q 17), aI K 314 (M_further (M_ex v))), ((q 18), aI K 314 (M_image (M_im v))), ((q 19), aI K 3 (M_sizeNow (M_rn v))), ((q 20), aI K 8 f8), ((q 21), aI K 4 f16), ((q 22), aI K 32 (M_aloneMemory (M_al v))), ((q 23), aI K 999 (M_aloneOutput (M_al v)))]) ([(0, .ref (q 0)), (1, .int a1), (2, .int x15)]) ([]) 64 := by
      intro k64_94 hk64_94 n64
      induction n64 with
      | zero => intro x15 f16 hf; exact (nomatch (show (none : Option (Int32 × T_M)) = some _ from hf))
      | succ n64 ih64 =>
        intro x15 f16 hf
        rw [f_M_strays_L64] at hf
        refine r_iload_n (pc := 64) cx dX10_strays_64 2 rfl ?_
        refine r_iconst (pc := 65) cx dX10_strays_65 ic_4 ?_
        refine r_icmp_ge (pc := 66) (tgt := 94) cx dX10_strays_66 (by decide) (fun h18 => ?_) (fun h18 => ?_)
        · have hf := ifp h18 hf
          refine r_loc (loc' := [(0, .ref (q 0)), (1, .int a1)]) [0, 1] rfl ?_
          exact hk64_94 _ hf
        · have hf := ifn h18 hf
          refine r_aload_n (pc := 69) cx dX10_strays_69 0 rfl ?_
          refine r_get (pc := 70) cx cf_X10 0 38 rfl (by decide) rfl wd_1354 dX10_strays_70 ?_
          refine r_iload_n (pc := 73) cx dX10_strays_73 2 rfl ?_
          refine r_aload_n (pc := 74) cx dX10_strays_74 0 rfl ?_
          refine r_get (pc := 75) cx cf_X10 0 26 rfl (by decide) rfl wd_1342 dX10_strays_75 ?_
          refine r_bipush (pc := 78) cx dX10_strays_78 bp_46 ?_
          refine r_iconst (pc := 80) cx dX10_strays_80 ic_4 ?_
          refine r_iload_n (pc := 81) cx dX10_strays_81 1 rfl ?_
          refine r_imul (pc := 82) cx dX10_strays_82 ?_
          refine r_iadd (pc := 83) cx dX10_strays_83 ?_
          refine r_iload_n (pc := 84) cx dX10_strays_84 2 rfl ?_
          refine r_iadd (pc := 85) cx dX10_strays_85 ?_
          obtain ⟨h19, hf⟩ := chk_of hf
          refine r_iald (pc := 86) cx 15 rfl h19 dX10_strays_86 ?_
          obtain ⟨x20, ex20, hf⟩ := nm_of hf
          refine r_nm ex20 ?_
          obtain ⟨h21, hf⟩ := chk_of hf
          obtain ⟨f22, ef22, hf⟩ := nm_of hf
          refine r_iast (pc := 87) (ws' := [((q 0), ob 9 [.int (0 : Int32), .ref (q 1), .int (M_taped (M_tp v)), .ref (q 2), .ref (q 3), .ref (q 4), .ref (q 5), .ref (q 6), .ref (q 7), .ref (q 8), .ref (q 9), .ref (q 10), .ref (q 11), .ref (q 12), .ref (q 13), .ref (q 14), .int (M_lines (M_rd v)), .int (M_size (M_rd v)), .int (M_at (M_rd v)), .int (M_place (M_rd v)), .int (M_sort (M_rd v)), .int (M_value (M_rd v)), .int (M_fault (M_rd v)), .int (M_faultPlace (M_rd v)), .int (M_lastFault (M_lf v)), .int (M_lastPlace (M_lf v)), .ref (q 15), .ref (q 16), .ref (q 17), .ref (q 18), .int (M_hasImage (M_im v)), .int (M_spanNow (M_rn v)), .ref (q 19), .int (M_placeThen (M_rn v)), .int x5, .int (M_aloneSteps (M_al v)), .int (M_aloneOut (M_al v)), .ref (q 20), .ref (q 21), .ref (q 22), .ref (q 23), .int (M_shotAlarm (M_ex v)), .int (M_drawn (M_ex v))]), ((q 1), aI K 700 (M_tape (M_tp v))), ((q 2), aI K 20 (M_number (M_cd v))), ((q 3), aZ K 5 (M_isTold (M_rd v))), ((q 4), aI K 80 (M_codeSort (M_cd v))), ((q 5), aI K 80 (M_codeA (M_cd v))), ((q 6), aI K 80 (M_codeB (M_cd v))), ((q 7), aI K 80 (M_codeC (M_cd v))), ((q 8), aI K 80 (M_codeName (M_cd v))), ((q 9), aI K 80 (M_codePlace (M_cd v))), ((q 10), aI K 80 (M_codeTo (M_cd v))), ((q 11), aI K 280 (M_labelName (M_cd v))), ((q 12), aI K 280 (M_labelAt (M_cd v))), ((q 13), aI K 64 (M_data (M_cd v))), ((q 14), aZ K 32 (M_hasData (M_rd v))), ((q 15), aI K 314 (M_s (M_rn v))), ((q 16), aI K 314 (M_aside (M_ex v))), ((q 17), aI K 314 (M_further (M_ex v))), ((q 18), aI K 314 (M_image (M_im v))), ((q 19), aI K 3 (M_sizeNow (M_rn v))), ((q 20), aI K 8 f8), ((q 21), aI K 4 f22), ((q 22), aI K 32 (M_aloneMemory (M_al v))), ((q 23), aI K 999 (M_aloneOutput (M_al v)))]) cx 21 rfl h21 dX10_strays_87 ef22 rfl ?_
          obtain ⟨x23, ex23, hf⟩ := nm_of hf
          refine r_iinc (pc := 88) (loc' := [(2, .int x23), (0, .ref (q 0)), (1, .int a1)]) (v := x23) cx dX10_strays_88 2 rfl ((congrArg (fun z => x15 + z) ic_1).trans ex23.symm) (by decide) rfl ?_
          refine r_goto (pc := 91) (tgt := 64) cx dX10_strays_91 (by decide) ?_
          refine r_loc (loc' := [(0, .ref (q 0)), (1, .int a1), (2, .int x23)]) [1, 2, 0] rfl ?_
          exact ih64 _ _ hf
    refine r_loc (loc' := [(0, .ref (q 0)), (1, .int a1), (2, .int (0 : Int32))]) [1, 2, 0] rfl ?_
    refine hL64 _ (fun f17 hf => ?_) _ _ _ hf
    refine r_iconst (pc := 94) cx dX10_strays_94 ic_0 ?_
    refine r_istore_n (pc := 95) (loc' := [(2, .int (0 : Int32)), (0, .ref (q 0)), (1, .int a1)]) cx dX10_strays_95 rfl (by decide) rfl ?_
    have hL96 : ∀ (k96_124 : (Nat → Int32) → Option (Int32 × T_M)), (∀ (f26 : (Nat → Int32)), k96_124 f26 = some (r_, o_v) → WW p l e rm_M_strays s m args below meth c D A 4 0 0 (MQ below (QI D K A r_ (cl_M K q o_v)) args s 0 0 A) ([((q 0), ob 9 [.int (0 : Int32), .ref (q 1), .int (M_taped (M_tp v)), .ref (q 2), .ref (q 3), .ref (q 4), .ref (q 5), .ref (q 6), .ref (q 7), .ref (q 8), .ref (q 9), .ref (q 10), .ref (q 11), .ref (q 12), .ref (q 13), .ref (q 14), .int (M_lines (M_rd v)), .int (M_size (M_rd v)), .int (M_at (M_rd v)), .int (M_place (M_rd v)), .int (M_sort (M_rd v)), .int (M_value (M_rd v)), .int (M_fault (M_rd v)), .int (M_faultPlace (M_rd v)), .int (M_lastFault (M_lf v)), .int (M_lastPlace (M_lf v)), .ref (q 15), .ref (q 16), .ref (q 17), .ref (q 18), .int (M_hasImage (M_im v)), .int (M_spanNow (M_rn v)), .ref (q 19), .int (M_placeThen (M_rn v)), .int x5, .int (M_aloneSteps (M_al v)), .int (M_aloneOut (M_al v)), .ref (q 20), .ref (q 21), .ref (q 22), .ref (q 23), .int (M_shotAlarm (M_ex v)), .int (M_drawn (M_ex v))]), ((q 1), aI K 700 (M_tape (M_tp v))), ((q 2), aI K 20 (M_number (M_cd v))), ((q 3), aZ K 5 (M_isTold (M_rd v))), ((q 4), aI K 80 (M_codeSort (M_cd v))), ((q 5), aI K 80 (M_codeA (M_cd v))), ((q 6), aI K 80 (M_codeB (M_cd v))), ((q 7), aI K 80 (M_codeC (M_cd v))), ((q 8), aI K 80 (M_codeName (M_cd v))), ((q 9), aI K 80 (M_codePlace (M_cd v))), ((q 10), aI K 80 (M_codeTo (M_cd v))), ((q 11), aI K 280 (M_labelName (M_cd v))), ((q 12), aI K 280 (M_labelAt (M_cd v))), ((q 13), aI K 64 (M_data (M_cd v))), ((q 14), aZ K 32 (M_hasData (M_rd v))), ((q 15), aI K 314 (M_s (M_rn v))), ((q 16), aI K 314 (M_aside (M_ex v))), ((q 17), aI K 314 (M_further (M_ex v))), ((q 18), aI K 314 (M_image (M_im v))), ((q 19), aI K 3 (M_sizeNow (M_rn v))), ((q 20), aI K 8 f8), ((q 21), aI K 4 f17), ((q 22), aI K 32 f26), ((q 23), aI K 999 (M_aloneOutput (M_al v)))]) ([(0, .ref (q 0)), (1, .int a1)]) ([]) 124) → ∀ (n96 : Nat) (x24 : Int32) (f25 : (Nat → Int32)), f_M_strays_L96 v k96_124 n96 x24 f25 = some (r_, o_v) → WW p l e rm_M_strays s m args below meth c D A 4 0 0 (MQ below (QI D K A r_ (cl_M K q o_v)) args s 0 0 A) ([((q 0), ob 9 [.int (0 : Int32), .ref (q 1), .int (M_taped (M_tp v)), .ref (q 2), .ref (q 3), .ref (q 4), .ref (q 5), .ref (q 6), .ref (q 7), .ref (q 8), .ref (q 9), .ref (q 10), .ref (q 11), .ref (q 12), .ref (q 13), .ref (q 14), .int (M_lines (M_rd v)), .int (M_size (M_rd v)), .int (M_at (M_rd v)), .int (M_place (M_rd v)), .int (M_sort (M_rd v)), .int (M_value (M_rd v)), .int (M_fault (M_rd v)), .int (M_faultPlace (M_rd v)), .int (M_lastFault (M_lf v)), .int (M_lastPlace (M_lf v)), .ref (q 15), .ref (q 16), .ref (q 17), .ref (q 18), .int (M_hasImage (M_im v)), .int (M_spanNow (M_rn v)), .ref (q 19), .int (M_placeThen (M_rn v)), .int x5, .int (M_aloneSteps (M_al v)), .int (M_aloneOut (M_al v)), .ref (q 20), .ref (q 21), .ref (q 22), .ref (q 23), .int (M_shotAlarm (M_ex v)), .int (M_drawn (M_ex v))]), ((q 1), aI K 700 (M_tape (M_tp v))), ((q 2), aI K 20 (M_number (M_cd v))), ((q 3), aZ K 5 (M_isTold (M_rd v))), ((q 4), aI K 80 (M_codeSort (M_cd v))), ((q 5), aI K 80 (M_codeA (M_cd v))), ((q 6), aI K 80 (M_codeB (M_cd v))), ((q 7), aI K 80 (M_codeC (M_cd v))), ((q 8), aI K 80 (M_codeName (M_cd v))), ((q 9), aI K 80 (M_codePlace (M_cd v))), ((q 10), aI K 80 (M_codeTo (M_cd v))), ((q 11), aI K 280 (M_labelName (M_cd v))), ((q 12), aI K 280 (M_labelAt (M_cd v))), ((q 13), aI K 64 (M_data (M_cd v))), ((q 14), aZ K 32 (M_hasData (M_rd v))), ((q 15), aI K 314 (M_s (M_rn v))), ((q 16), aI K 314 (M_aside (M_ex v))), ((q 17), aI K 314 (M_further (M_ex v))), ((q 18), aI K 314 (M_image (M_im v))), ((q 19), aI K 3 (M_sizeNow (M_rn v))), ((q 20), aI K 8 f8), ((q 21), aI K 4 f17), ((q 22), aI K 32 f25), ((q 23), aI K 999 (M_aloneOutput (M_al v)))]) ([(0, .ref (q 0)), (1, .int a1), (2, .int x24)]) ([]) 96 := by
      intro k96_124 hk96_124 n96
      induction n96 with
      | zero => intro x24 f25 hf; exact (nomatch (show (none : Option (Int32 × T_M)) = some _ from hf))
      | succ n96 ih96 =>
        intro x24 f25 hf
        rw [f_M_strays_L96] at hf
        refine r_iload_n (pc := 96) cx dX10_strays_96 2 rfl ?_
        refine r_bipush (pc := 97) cx dX10_strays_97 bp_32 ?_
        refine r_icmp_ge (pc := 99) (tgt := 124) cx dX10_strays_99 (by decide) (fun h27 => ?_) (fun h27 => ?_)
        · have hf := ifp h27 hf
          refine r_loc (loc' := [(0, .ref (q 0)), (1, .int a1)]) [0, 1] rfl ?_
          exact hk96_124 _ hf
        · have hf := ifn h27 hf
          refine r_aload_n (pc := 102) cx dX10_strays_102 0 rfl ?_
          refine r_get (pc := 103) cx cf_X10 0 39 rfl (by decide) rfl wd_1355 dX10_strays_103 ?_
          refine r_iload_n (pc := 106) cx dX10_strays_106 2 rfl ?_
          refine r_aload_n (pc := 107) cx dX10_strays_107 0 rfl ?_
          refine r_get (pc := 108) cx cf_X10 0 26 rfl (by decide) rfl wd_1342 dX10_strays_108 ?_
          refine r_sipush (pc := 111) cx dX10_strays_111 sp_146 ?_
          refine r_iload_n (pc := 114) cx dX10_strays_114 2 rfl ?_
          refine r_iadd (pc := 115) cx dX10_strays_115 ?_
          obtain ⟨h28, hf⟩ := chk_of hf
          refine r_iald (pc := 116) cx 15 rfl h28 dX10_strays_116 ?_
          obtain ⟨x29, ex29, hf⟩ := nm_of hf
          refine r_nm ex29 ?_
          obtain ⟨h30, hf⟩ := chk_of hf
          obtain ⟨f31, ef31, hf⟩ := nm_of hf
          refine r_iast (pc := 117) (ws' := [((q 0), ob 9 [.int (0 : Int32), .ref (q 1), .int (M_taped (M_tp v)), .ref (q 2), .ref (q 3), .ref (q 4), .ref (q 5), .ref (q 6), .ref (q 7), .ref (q 8), .ref (q 9), .ref (q 10), .ref (q 11), .ref (q 12), .ref (q 13), .ref (q 14), .int (M_lines (M_rd v)), .int (M_size (M_rd v)), .int (M_at (M_rd v)), .int (M_place (M_rd v)), .int (M_sort (M_rd v)), .int (M_value (M_rd v)), .int (M_fault (M_rd v)), .int (M_faultPlace (M_rd v)), .int (M_lastFault (M_lf v)), .int (M_lastPlace (M_lf v)), .ref (q 15), .ref (q 16), .ref (q 17), .ref (q 18), .int (M_hasImage (M_im v)), .int (M_spanNow (M_rn v)), .ref (q 19), .int (M_placeThen (M_rn v)), .int x5, .int (M_aloneSteps (M_al v)), .int (M_aloneOut (M_al v)), .ref (q 20), .ref (q 21), .ref (q 22), .ref (q 23), .int (M_shotAlarm (M_ex v)), .int (M_drawn (M_ex v))]), ((q 1), aI K 700 (M_tape (M_tp v))), ((q 2), aI K 20 (M_number (M_cd v))), ((q 3), aZ K 5 (M_isTold (M_rd v))), ((q 4), aI K 80 (M_codeSort (M_cd v))), ((q 5), aI K 80 (M_codeA (M_cd v))), ((q 6), aI K 80 (M_codeB (M_cd v))), ((q 7), aI K 80 (M_codeC (M_cd v))), ((q 8), aI K 80 (M_codeName (M_cd v))), ((q 9), aI K 80 (M_codePlace (M_cd v))), ((q 10), aI K 80 (M_codeTo (M_cd v))), ((q 11), aI K 280 (M_labelName (M_cd v))), ((q 12), aI K 280 (M_labelAt (M_cd v))), ((q 13), aI K 64 (M_data (M_cd v))), ((q 14), aZ K 32 (M_hasData (M_rd v))), ((q 15), aI K 314 (M_s (M_rn v))), ((q 16), aI K 314 (M_aside (M_ex v))), ((q 17), aI K 314 (M_further (M_ex v))), ((q 18), aI K 314 (M_image (M_im v))), ((q 19), aI K 3 (M_sizeNow (M_rn v))), ((q 20), aI K 8 f8), ((q 21), aI K 4 f17), ((q 22), aI K 32 f31), ((q 23), aI K 999 (M_aloneOutput (M_al v)))]) cx 22 rfl h30 dX10_strays_117 ef31 rfl ?_
          obtain ⟨x32, ex32, hf⟩ := nm_of hf
          refine r_iinc (pc := 118) (loc' := [(2, .int x32), (0, .ref (q 0)), (1, .int a1)]) (v := x32) cx dX10_strays_118 2 rfl ((congrArg (fun z => x24 + z) ic_1).trans ex32.symm) (by decide) rfl ?_
          refine r_goto (pc := 121) (tgt := 96) cx dX10_strays_121 (by decide) ?_
          refine r_loc (loc' := [(0, .ref (q 0)), (1, .int a1), (2, .int x32)]) [1, 2, 0] rfl ?_
          exact ih96 _ _ hf
    refine r_loc (loc' := [(0, .ref (q 0)), (1, .int a1), (2, .int (0 : Int32))]) [1, 2, 0] rfl ?_
    refine hL96 _ (fun f26 hf => ?_) _ _ _ hf
    refine r_aload_n (pc := 124) cx dX10_strays_124 0 rfl ?_
    refine r_aload_n (pc := 125) cx dX10_strays_125 0 rfl ?_
    refine r_get (pc := 126) cx cf_X10 0 26 rfl (by decide) rfl wd_1342 dX10_strays_126 ?_
    refine r_iconst (pc := 129) cx dX10_strays_129 ic_2 ?_
    refine r_iload_n (pc := 130) cx dX10_strays_130 1 rfl ?_
    refine r_iadd (pc := 131) cx dX10_strays_131 ?_
    obtain ⟨h33, hf⟩ := chk_of hf
    refine r_iald (pc := 132) cx 15 rfl h33 dX10_strays_132 ?_
    obtain ⟨v34, hc35, hf⟩ := bd_of hf
    refine r_Vv (pc := 133) (ws' := [((q 0), ob 9 [.int (M_thrown v34), .ref (q 1), .int (M_taped (M_tp v34)), .ref (q 2), .ref (q 3), .ref (q 4), .ref (q 5), .ref (q 6), .ref (q 7), .ref (q 8), .ref (q 9), .ref (q 10), .ref (q 11), .ref (q 12), .ref (q 13), .ref (q 14), .int (M_lines (M_rd v34)), .int (M_size (M_rd v34)), .int (M_at (M_rd v34)), .int (M_place (M_rd v34)), .int (M_sort (M_rd v34)), .int (M_value (M_rd v34)), .int (M_fault (M_rd v34)), .int (M_faultPlace (M_rd v34)), .int (M_lastFault (M_lf v34)), .int (M_lastPlace (M_lf v34)), .ref (q 15), .ref (q 16), .ref (q 17), .ref (q 18), .int (M_hasImage (M_im v34)), .int (M_spanNow (M_rn v34)), .ref (q 19), .int (M_placeThen (M_rn v34)), .int (M_alonePlace (M_al v34)), .int (M_aloneSteps (M_al v34)), .int (M_aloneOut (M_al v34)), .ref (q 20), .ref (q 21), .ref (q 22), .ref (q 23), .int (M_shotAlarm (M_ex v34)), .int (M_drawn (M_ex v34))]), ((q 1), aI K 700 (M_tape (M_tp v34))), ((q 2), aI K 20 (M_number (M_cd v34))), ((q 3), aZ K 5 (M_isTold (M_rd v34))), ((q 4), aI K 80 (M_codeSort (M_cd v34))), ((q 5), aI K 80 (M_codeA (M_cd v34))), ((q 6), aI K 80 (M_codeB (M_cd v34))), ((q 7), aI K 80 (M_codeC (M_cd v34))), ((q 8), aI K 80 (M_codeName (M_cd v34))), ((q 9), aI K 80 (M_codePlace (M_cd v34))), ((q 10), aI K 80 (M_codeTo (M_cd v34))), ((q 11), aI K 280 (M_labelName (M_cd v34))), ((q 12), aI K 280 (M_labelAt (M_cd v34))), ((q 13), aI K 64 (M_data (M_cd v34))), ((q 14), aZ K 32 (M_hasData (M_rd v34))), ((q 15), aI K 314 (M_s (M_rn v34))), ((q 16), aI K 314 (M_aside (M_ex v34))), ((q 17), aI K 314 (M_further (M_ex v34))), ((q 18), aI K 314 (M_image (M_im v34))), ((q 19), aI K 3 (M_sizeNow (M_rn v34))), ((q 20), aI K 8 (M_aloneRegister (M_al v34))), ((q 21), aI K 4 (M_aloneReal (M_al v34))), ((q 22), aI K 32 (M_aloneMemory (M_al v34))), ((q 23), aI K 999 (M_aloneOutput (M_al v34)))]) (nn := 24) cx [.int ((M_s (M_rn v)) (((2 : Int32) + a1)).toNatClampNeg)] [] (m_M_aloneGoes l D K q ((M_tp v), (M_rd v), (M_lf v), (M_cd v), (M_rn v), (M_ex v), (M_im v), (x5, (M_aloneSteps (M_al v)), (M_aloneOut (M_al v)), f8, f17, f26, (M_aloneOutput (M_al v))), (0 : Int32)) ((M_s (M_rn v)) (((2 : Int32) + a1)).toNatClampNeg) hc35) yv_X10_aloneGoes wd_1779 ⟨rfl, rfl⟩ (by decide) (fr_s (j := 0) rfl rfl rfl (fr_s (j := 1) rfl rfl rfl (fr_s (j := 2) rfl rfl rfl (fr_s (j := 3) rfl rfl rfl (fr_s (j := 4) rfl rfl rfl (fr_s (j := 5) rfl rfl rfl (fr_s (j := 6) rfl rfl rfl (fr_s (j := 7) rfl rfl rfl (fr_s (j := 8) rfl rfl rfl (fr_s (j := 9) rfl rfl rfl (fr_s (j := 10) rfl rfl rfl (fr_s (j := 11) rfl rfl rfl (fr_s (j := 12) rfl rfl rfl (fr_s (j := 13) rfl rfl rfl (fr_s (j := 14) rfl rfl rfl (fr_s (j := 15) rfl rfl rfl (fr_s (j := 16) rfl rfl rfl (fr_s (j := 17) rfl rfl rfl (fr_s (j := 18) rfl rfl rfl (fr_s (j := 19) rfl rfl rfl (fr_s (j := 20) rfl rfl rfl (fr_s (j := 21) rfl rfl rfl (fr_s (j := 22) rfl rfl rfl (fr_s (j := 23) rfl rfl rfl (fr_n))))))))))))))))))))))))) rfl (by decide) 0 rfl rfl rfl (Nat.le_of_ble_eq_true rfl) dX10_strays_133 ?_
    refine r_aload_n (pc := 136) cx dX10_strays_136 0 rfl ?_
    refine r_get (pc := 137) cx cf_X10 0 34 rfl (by decide) rfl wd_1350 dX10_strays_137 ?_
    refine r_aload_n (pc := 140) cx dX10_strays_140 0 rfl ?_
    refine r_get (pc := 141) cx cf_X10 0 26 rfl (by decide) rfl wd_1342 dX10_strays_141 ?_
    refine r_iconst (pc := 144) cx dX10_strays_144 ic_0 ?_
    refine r_iload_n (pc := 145) cx dX10_strays_145 1 rfl ?_
    refine r_iadd (pc := 146) cx dX10_strays_146 ?_
    obtain ⟨h36, hf⟩ := chk_of hf
    refine r_iald (pc := 147) cx 15 rfl h36 dX10_strays_147 ?_
    obtain ⟨J38, eJ38, hf⟩ := nm_of hf
    have hJ38 : ∀ (y37 : Int32), J38 y37 = some (r_, o_v) → WW p l e rm_M_strays s m args below meth c D A 4 0 0 (MQ below (QI D K A r_ (cl_M K q o_v)) args s 0 0 A) ([((q 0), ob 9 [.int (M_thrown v34), .ref (q 1), .int (M_taped (M_tp v34)), .ref (q 2), .ref (q 3), .ref (q 4), .ref (q 5), .ref (q 6), .ref (q 7), .ref (q 8), .ref (q 9), .ref (q 10), .ref (q 11), .ref (q 12), .ref (q 13), .ref (q 14), .int (M_lines (M_rd v34)), .int (M_size (M_rd v34)), .int (M_at (M_rd v34)), .int (M_place (M_rd v34)), .int (M_sort (M_rd v34)), .int (M_value (M_rd v34)), .int (M_fault (M_rd v34)), .int (M_faultPlace (M_rd v34)), .int (M_lastFault (M_lf v34)), .int (M_lastPlace (M_lf v34)), .ref (q 15), .ref (q 16), .ref (q 17), .ref (q 18), .int (M_hasImage (M_im v34)), .int (M_spanNow (M_rn v34)), .ref (q 19), .int (M_placeThen (M_rn v34)), .int (M_alonePlace (M_al v34)), .int (M_aloneSteps (M_al v34)), .int (M_aloneOut (M_al v34)), .ref (q 20), .ref (q 21), .ref (q 22), .ref (q 23), .int (M_shotAlarm (M_ex v34)), .int (M_drawn (M_ex v34))]), ((q 1), aI K 700 (M_tape (M_tp v34))), ((q 2), aI K 20 (M_number (M_cd v34))), ((q 3), aZ K 5 (M_isTold (M_rd v34))), ((q 4), aI K 80 (M_codeSort (M_cd v34))), ((q 5), aI K 80 (M_codeA (M_cd v34))), ((q 6), aI K 80 (M_codeB (M_cd v34))), ((q 7), aI K 80 (M_codeC (M_cd v34))), ((q 8), aI K 80 (M_codeName (M_cd v34))), ((q 9), aI K 80 (M_codePlace (M_cd v34))), ((q 10), aI K 80 (M_codeTo (M_cd v34))), ((q 11), aI K 280 (M_labelName (M_cd v34))), ((q 12), aI K 280 (M_labelAt (M_cd v34))), ((q 13), aI K 64 (M_data (M_cd v34))), ((q 14), aZ K 32 (M_hasData (M_rd v34))), ((q 15), aI K 314 (M_s (M_rn v34))), ((q 16), aI K 314 (M_aside (M_ex v34))), ((q 17), aI K 314 (M_further (M_ex v34))), ((q 18), aI K 314 (M_image (M_im v34))), ((q 19), aI K 3 (M_sizeNow (M_rn v34))), ((q 20), aI K 8 (M_aloneRegister (M_al v34))), ((q 21), aI K 4 (M_aloneReal (M_al v34))), ((q 22), aI K 32 (M_aloneMemory (M_al v34))), ((q 23), aI K 999 (M_aloneOutput (M_al v34)))]) ([(0, .ref (q 0)), (1, .int a1)]) ([.int y37]) 156 := by
      intro y37 hf
      rw [eJ38] at hf
      refine r_istore_n (pc := 156) (loc' := [(2, .int y37), (0, .ref (q 0)), (1, .int a1)]) cx dX10_strays_156 rfl (by decide) rfl ?_
      refine r_iconst (pc := 157) cx dX10_strays_157 ic_0 ?_
      refine r_istore_n (pc := 158) (loc' := [(3, .int (0 : Int32)), (2, .int y37), (0, .ref (q 0)), (1, .int a1)]) cx dX10_strays_158 rfl (by decide) rfl ?_
      have hL159 : ∀ (k159_201 : Int32 → Option (Int32 × T_M)), (∀ (x41 : Int32), k159_201 x41 = some (r_, o_v) → WW p l e rm_M_strays s m args below meth c D A 4 0 0 (MQ below (QI D K A r_ (cl_M K q o_v)) args s 0 0 A) ([((q 0), ob 9 [.int (M_thrown v34), .ref (q 1), .int (M_taped (M_tp v34)), .ref (q 2), .ref (q 3), .ref (q 4), .ref (q 5), .ref (q 6), .ref (q 7), .ref (q 8), .ref (q 9), .ref (q 10), .ref (q 11), .ref (q 12), .ref (q 13), .ref (q 14), .int (M_lines (M_rd v34)), .int (M_size (M_rd v34)), .int (M_at (M_rd v34)), .int (M_place (M_rd v34)), .int (M_sort (M_rd v34)), .int (M_value (M_rd v34)), .int (M_fault (M_rd v34)), .int (M_faultPlace (M_rd v34)), .int (M_lastFault (M_lf v34)), .int (M_lastPlace (M_lf v34)), .ref (q 15), .ref (q 16), .ref (q 17), .ref (q 18), .int (M_hasImage (M_im v34)), .int (M_spanNow (M_rn v34)), .ref (q 19), .int (M_placeThen (M_rn v34)), .int (M_alonePlace (M_al v34)), .int (M_aloneSteps (M_al v34)), .int (M_aloneOut (M_al v34)), .ref (q 20), .ref (q 21), .ref (q 22), .ref (q 23), .int (M_shotAlarm (M_ex v34)), .int (M_drawn (M_ex v34))]), ((q 1), aI K 700 (M_tape (M_tp v34))), ((q 2), aI K 20 (M_number (M_cd v34))), ((q 3), aZ K 5 (M_isTold (M_rd v34))), ((q 4), aI K 80 (M_codeSort (M_cd v34))), ((q 5), aI K 80 (M_codeA (M_cd v34))), ((q 6), aI K 80 (M_codeB (M_cd v34))), ((q 7), aI K 80 (M_codeC (M_cd v34))), ((q 8), aI K 80 (M_codeName (M_cd v34))), ((q 9), aI K 80 (M_codePlace (M_cd v34))), ((q 10), aI K 80 (M_codeTo (M_cd v34))), ((q 11), aI K 280 (M_labelName (M_cd v34))), ((q 12), aI K 280 (M_labelAt (M_cd v34))), ((q 13), aI K 64 (M_data (M_cd v34))), ((q 14), aZ K 32 (M_hasData (M_rd v34))), ((q 15), aI K 314 (M_s (M_rn v34))), ((q 16), aI K 314 (M_aside (M_ex v34))), ((q 17), aI K 314 (M_further (M_ex v34))), ((q 18), aI K 314 (M_image (M_im v34))), ((q 19), aI K 3 (M_sizeNow (M_rn v34))), ((q 20), aI K 8 (M_aloneRegister (M_al v34))), ((q 21), aI K 4 (M_aloneReal (M_al v34))), ((q 22), aI K 32 (M_aloneMemory (M_al v34))), ((q 23), aI K 999 (M_aloneOutput (M_al v34)))]) ([(0, .ref (q 0)), (1, .int a1), (2, .int x41)]) ([]) 201) → ∀ (n159 : Nat) (x39 : Int32) (x40 : Int32), f_M_strays_L159 a1 v34 k159_201 n159 x39 x40 = some (r_, o_v) → WW p l e rm_M_strays s m args below meth c D A 4 0 0 (MQ below (QI D K A r_ (cl_M K q o_v)) args s 0 0 A) ([((q 0), ob 9 [.int (M_thrown v34), .ref (q 1), .int (M_taped (M_tp v34)), .ref (q 2), .ref (q 3), .ref (q 4), .ref (q 5), .ref (q 6), .ref (q 7), .ref (q 8), .ref (q 9), .ref (q 10), .ref (q 11), .ref (q 12), .ref (q 13), .ref (q 14), .int (M_lines (M_rd v34)), .int (M_size (M_rd v34)), .int (M_at (M_rd v34)), .int (M_place (M_rd v34)), .int (M_sort (M_rd v34)), .int (M_value (M_rd v34)), .int (M_fault (M_rd v34)), .int (M_faultPlace (M_rd v34)), .int (M_lastFault (M_lf v34)), .int (M_lastPlace (M_lf v34)), .ref (q 15), .ref (q 16), .ref (q 17), .ref (q 18), .int (M_hasImage (M_im v34)), .int (M_spanNow (M_rn v34)), .ref (q 19), .int (M_placeThen (M_rn v34)), .int (M_alonePlace (M_al v34)), .int (M_aloneSteps (M_al v34)), .int (M_aloneOut (M_al v34)), .ref (q 20), .ref (q 21), .ref (q 22), .ref (q 23), .int (M_shotAlarm (M_ex v34)), .int (M_drawn (M_ex v34))]), ((q 1), aI K 700 (M_tape (M_tp v34))), ((q 2), aI K 20 (M_number (M_cd v34))), ((q 3), aZ K 5 (M_isTold (M_rd v34))), ((q 4), aI K 80 (M_codeSort (M_cd v34))), ((q 5), aI K 80 (M_codeA (M_cd v34))), ((q 6), aI K 80 (M_codeB (M_cd v34))), ((q 7), aI K 80 (M_codeC (M_cd v34))), ((q 8), aI K 80 (M_codeName (M_cd v34))), ((q 9), aI K 80 (M_codePlace (M_cd v34))), ((q 10), aI K 80 (M_codeTo (M_cd v34))), ((q 11), aI K 280 (M_labelName (M_cd v34))), ((q 12), aI K 280 (M_labelAt (M_cd v34))), ((q 13), aI K 64 (M_data (M_cd v34))), ((q 14), aZ K 32 (M_hasData (M_rd v34))), ((q 15), aI K 314 (M_s (M_rn v34))), ((q 16), aI K 314 (M_aside (M_ex v34))), ((q 17), aI K 314 (M_further (M_ex v34))), ((q 18), aI K 314 (M_image (M_im v34))), ((q 19), aI K 3 (M_sizeNow (M_rn v34))), ((q 20), aI K 8 (M_aloneRegister (M_al v34))), ((q 21), aI K 4 (M_aloneReal (M_al v34))), ((q 22), aI K 32 (M_aloneMemory (M_al v34))), ((q 23), aI K 999 (M_aloneOutput (M_al v34)))]) ([(0, .ref (q 0)), (1, .int a1), (2, .int x39), (3, .int x40)]) ([]) 159 := by
        intro k159_201 hk159_201 n159
        induction n159 with
        | zero => intro x39 x40 hf; exact (nomatch (show (none : Option (Int32 × T_M)) = some _ from hf))
        | succ n159 ih159 =>
          intro x39 x40 hf
          rw [f_M_strays_L159] at hf
          refine r_iload_n (pc := 159) cx dX10_strays_159 3 rfl ?_
          refine r_bipush (pc := 160) cx dX10_strays_160 bp_8 ?_
          refine r_icmp_ge (pc := 162) (tgt := 201) cx dX10_strays_162 (by decide) (fun h42 => ?_) (fun h42 => ?_)
          · have hf := ifp h42 hf
            refine r_loc (loc' := [(0, .ref (q 0)), (1, .int a1), (2, .int x39)]) [0, 1, 2] rfl ?_
            exact hk159_201 _ hf
          · have hf := ifn h42 hf
            refine r_iload_n (pc := 165) cx dX10_strays_165 2 rfl ?_
            refine r_aload_n (pc := 166) cx dX10_strays_166 0 rfl ?_
            refine r_get (pc := 167) cx cf_X10 0 37 rfl (by decide) rfl wd_1353 dX10_strays_167 ?_
            refine r_iload_n (pc := 170) cx dX10_strays_170 3 rfl ?_
            obtain ⟨h43, hf⟩ := chk_of hf
            refine r_iald (pc := 171) cx 20 rfl h43 dX10_strays_171 ?_
            refine r_aload_n (pc := 172) cx dX10_strays_172 0 rfl ?_
            refine r_get (pc := 173) cx cf_X10 0 26 rfl (by decide) rfl wd_1342 dX10_strays_173 ?_
            refine r_iconst (pc := 176) cx dX10_strays_176 ic_4 ?_
            refine r_bipush (pc := 177) cx dX10_strays_177 bp_8 ?_
            refine r_iload_n (pc := 179) cx dX10_strays_179 1 rfl ?_
            refine r_imul (pc := 180) cx dX10_strays_180 ?_
            refine r_iadd (pc := 181) cx dX10_strays_181 ?_
            refine r_iload_n (pc := 182) cx dX10_strays_182 3 rfl ?_
            refine r_iadd (pc := 183) cx dX10_strays_183 ?_
            obtain ⟨h44, hf⟩ := chk_of hf
            refine r_iald (pc := 184) cx 15 rfl h44 dX10_strays_184 ?_
            refine r_icmp_ne (pc := 185) (tgt := 192) cx dX10_strays_185 (by decide) (fun h45 => ?_) (fun h45 => ?_)
            · have hf := ifn h45 hf
              refine r_iconst (pc := 192) cx dX10_strays_192 ic_1 ?_
              refine r_iadd (pc := 193) cx dX10_strays_193 ?_
              obtain ⟨x46, ex46, hf⟩ := nm_of hf
              refine r_nm ex46 ?_
              refine r_istore_n (pc := 194) (loc' := [(2, .int x46), (0, .ref (q 0)), (1, .int a1), (3, .int x40)]) cx dX10_strays_194 rfl (by decide) rfl ?_
              obtain ⟨x47, ex47, hf⟩ := nm_of hf
              refine r_iinc (pc := 195) (loc' := [(3, .int x47), (2, .int x46), (0, .ref (q 0)), (1, .int a1)]) (v := x47) cx dX10_strays_195 3 rfl ((congrArg (fun z => x40 + z) ic_1).trans ex47.symm) (by decide) rfl ?_
              refine r_goto (pc := 198) (tgt := 159) cx dX10_strays_198 (by decide) ?_
              refine r_loc (loc' := [(0, .ref (q 0)), (1, .int a1), (2, .int x46), (3, .int x47)]) [2, 3, 1, 0] rfl ?_
              exact ih159 _ _ hf
            · have hf := ifp h45 hf
              refine r_iconst (pc := 188) cx dX10_strays_188 ic_0 ?_
              refine r_goto (pc := 189) (tgt := 193) cx dX10_strays_189 (by decide) ?_
              refine r_iadd (pc := 193) cx dX10_strays_193 ?_
              obtain ⟨x48, ex48, hf⟩ := nm_of hf
              refine r_nm ex48 ?_
              refine r_istore_n (pc := 194) (loc' := [(2, .int x48), (0, .ref (q 0)), (1, .int a1), (3, .int x40)]) cx dX10_strays_194 rfl (by decide) rfl ?_
              obtain ⟨x49, ex49, hf⟩ := nm_of hf
              refine r_iinc (pc := 195) (loc' := [(3, .int x49), (2, .int x48), (0, .ref (q 0)), (1, .int a1)]) (v := x49) cx dX10_strays_195 3 rfl ((congrArg (fun z => x40 + z) ic_1).trans ex49.symm) (by decide) rfl ?_
              refine r_goto (pc := 198) (tgt := 159) cx dX10_strays_198 (by decide) ?_
              refine r_loc (loc' := [(0, .ref (q 0)), (1, .int a1), (2, .int x48), (3, .int x49)]) [2, 3, 1, 0] rfl ?_
              exact ih159 _ _ hf
      refine r_loc (loc' := [(0, .ref (q 0)), (1, .int a1), (2, .int y37), (3, .int (0 : Int32))]) [2, 3, 1, 0] rfl ?_
      refine hL159 _ (fun x41 hf => ?_) _ _ _ hf
      refine r_iconst (pc := 201) cx dX10_strays_201 ic_0 ?_
      refine r_istore_n (pc := 202) (loc' := [(3, .int (0 : Int32)), (0, .ref (q 0)), (1, .int a1), (2, .int x41)]) cx dX10_strays_202 rfl (by decide) rfl ?_
      have hL203 : ∀ (k203_244 : Int32 → Option (Int32 × T_M)), (∀ (x52 : Int32), k203_244 x52 = some (r_, o_v) → WW p l e rm_M_strays s m args below meth c D A 4 0 0 (MQ below (QI D K A r_ (cl_M K q o_v)) args s 0 0 A) ([((q 0), ob 9 [.int (M_thrown v34), .ref (q 1), .int (M_taped (M_tp v34)), .ref (q 2), .ref (q 3), .ref (q 4), .ref (q 5), .ref (q 6), .ref (q 7), .ref (q 8), .ref (q 9), .ref (q 10), .ref (q 11), .ref (q 12), .ref (q 13), .ref (q 14), .int (M_lines (M_rd v34)), .int (M_size (M_rd v34)), .int (M_at (M_rd v34)), .int (M_place (M_rd v34)), .int (M_sort (M_rd v34)), .int (M_value (M_rd v34)), .int (M_fault (M_rd v34)), .int (M_faultPlace (M_rd v34)), .int (M_lastFault (M_lf v34)), .int (M_lastPlace (M_lf v34)), .ref (q 15), .ref (q 16), .ref (q 17), .ref (q 18), .int (M_hasImage (M_im v34)), .int (M_spanNow (M_rn v34)), .ref (q 19), .int (M_placeThen (M_rn v34)), .int (M_alonePlace (M_al v34)), .int (M_aloneSteps (M_al v34)), .int (M_aloneOut (M_al v34)), .ref (q 20), .ref (q 21), .ref (q 22), .ref (q 23), .int (M_shotAlarm (M_ex v34)), .int (M_drawn (M_ex v34))]), ((q 1), aI K 700 (M_tape (M_tp v34))), ((q 2), aI K 20 (M_number (M_cd v34))), ((q 3), aZ K 5 (M_isTold (M_rd v34))), ((q 4), aI K 80 (M_codeSort (M_cd v34))), ((q 5), aI K 80 (M_codeA (M_cd v34))), ((q 6), aI K 80 (M_codeB (M_cd v34))), ((q 7), aI K 80 (M_codeC (M_cd v34))), ((q 8), aI K 80 (M_codeName (M_cd v34))), ((q 9), aI K 80 (M_codePlace (M_cd v34))), ((q 10), aI K 80 (M_codeTo (M_cd v34))), ((q 11), aI K 280 (M_labelName (M_cd v34))), ((q 12), aI K 280 (M_labelAt (M_cd v34))), ((q 13), aI K 64 (M_data (M_cd v34))), ((q 14), aZ K 32 (M_hasData (M_rd v34))), ((q 15), aI K 314 (M_s (M_rn v34))), ((q 16), aI K 314 (M_aside (M_ex v34))), ((q 17), aI K 314 (M_further (M_ex v34))), ((q 18), aI K 314 (M_image (M_im v34))), ((q 19), aI K 3 (M_sizeNow (M_rn v34))), ((q 20), aI K 8 (M_aloneRegister (M_al v34))), ((q 21), aI K 4 (M_aloneReal (M_al v34))), ((q 22), aI K 32 (M_aloneMemory (M_al v34))), ((q 23), aI K 999 (M_aloneOutput (M_al v34)))]) ([(2, .int x52)]) ([]) 244) → ∀ (n203 : Nat) (x50 : Int32) (x51 : Int32), f_M_strays_L203 a1 v34 k203_244 n203 x50 x51 = some (r_, o_v) → WW p l e rm_M_strays s m args below meth c D A 4 0 0 (MQ below (QI D K A r_ (cl_M K q o_v)) args s 0 0 A) ([((q 0), ob 9 [.int (M_thrown v34), .ref (q 1), .int (M_taped (M_tp v34)), .ref (q 2), .ref (q 3), .ref (q 4), .ref (q 5), .ref (q 6), .ref (q 7), .ref (q 8), .ref (q 9), .ref (q 10), .ref (q 11), .ref (q 12), .ref (q 13), .ref (q 14), .int (M_lines (M_rd v34)), .int (M_size (M_rd v34)), .int (M_at (M_rd v34)), .int (M_place (M_rd v34)), .int (M_sort (M_rd v34)), .int (M_value (M_rd v34)), .int (M_fault (M_rd v34)), .int (M_faultPlace (M_rd v34)), .int (M_lastFault (M_lf v34)), .int (M_lastPlace (M_lf v34)), .ref (q 15), .ref (q 16), .ref (q 17), .ref (q 18), .int (M_hasImage (M_im v34)), .int (M_spanNow (M_rn v34)), .ref (q 19), .int (M_placeThen (M_rn v34)), .int (M_alonePlace (M_al v34)), .int (M_aloneSteps (M_al v34)), .int (M_aloneOut (M_al v34)), .ref (q 20), .ref (q 21), .ref (q 22), .ref (q 23), .int (M_shotAlarm (M_ex v34)), .int (M_drawn (M_ex v34))]), ((q 1), aI K 700 (M_tape (M_tp v34))), ((q 2), aI K 20 (M_number (M_cd v34))), ((q 3), aZ K 5 (M_isTold (M_rd v34))), ((q 4), aI K 80 (M_codeSort (M_cd v34))), ((q 5), aI K 80 (M_codeA (M_cd v34))), ((q 6), aI K 80 (M_codeB (M_cd v34))), ((q 7), aI K 80 (M_codeC (M_cd v34))), ((q 8), aI K 80 (M_codeName (M_cd v34))), ((q 9), aI K 80 (M_codePlace (M_cd v34))), ((q 10), aI K 80 (M_codeTo (M_cd v34))), ((q 11), aI K 280 (M_labelName (M_cd v34))), ((q 12), aI K 280 (M_labelAt (M_cd v34))), ((q 13), aI K 64 (M_data (M_cd v34))), ((q 14), aZ K 32 (M_hasData (M_rd v34))), ((q 15), aI K 314 (M_s (M_rn v34))), ((q 16), aI K 314 (M_aside (M_ex v34))), ((q 17), aI K 314 (M_further (M_ex v34))), ((q 18), aI K 314 (M_image (M_im v34))), ((q 19), aI K 3 (M_sizeNow (M_rn v34))), ((q 20), aI K 8 (M_aloneRegister (M_al v34))), ((q 21), aI K 4 (M_aloneReal (M_al v34))), ((q 22), aI K 32 (M_aloneMemory (M_al v34))), ((q 23), aI K 999 (M_aloneOutput (M_al v34)))]) ([(0, .ref (q 0)), (1, .int a1), (2, .int x50), (3, .int x51)]) ([]) 203 := by
        intro k203_244 hk203_244 n203
        induction n203 with
        | zero => intro x50 x51 hf; exact (nomatch (show (none : Option (Int32 × T_M)) = some _ from hf))
        | succ n203 ih203 =>
          intro x50 x51 hf
          rw [f_M_strays_L203] at hf
          refine r_iload_n (pc := 203) cx dX10_strays_203 3 rfl ?_
          refine r_iconst (pc := 204) cx dX10_strays_204 ic_4 ?_
          refine r_icmp_ge (pc := 205) (tgt := 244) cx dX10_strays_205 (by decide) (fun h53 => ?_) (fun h53 => ?_)
          · have hf := ifp h53 hf
            refine r_loc (loc' := [(2, .int x50)]) [2] rfl ?_
            exact hk203_244 _ hf
          · have hf := ifn h53 hf
            refine r_iload_n (pc := 208) cx dX10_strays_208 2 rfl ?_
            refine r_aload_n (pc := 209) cx dX10_strays_209 0 rfl ?_
            refine r_get (pc := 210) cx cf_X10 0 38 rfl (by decide) rfl wd_1354 dX10_strays_210 ?_
            refine r_iload_n (pc := 213) cx dX10_strays_213 3 rfl ?_
            obtain ⟨h54, hf⟩ := chk_of hf
            refine r_iald (pc := 214) cx 21 rfl h54 dX10_strays_214 ?_
            refine r_aload_n (pc := 215) cx dX10_strays_215 0 rfl ?_
            refine r_get (pc := 216) cx cf_X10 0 26 rfl (by decide) rfl wd_1342 dX10_strays_216 ?_
            refine r_bipush (pc := 219) cx dX10_strays_219 bp_20 ?_
            refine r_iconst (pc := 221) cx dX10_strays_221 ic_4 ?_
            refine r_iload_n (pc := 222) cx dX10_strays_222 1 rfl ?_
            refine r_imul (pc := 223) cx dX10_strays_223 ?_
            refine r_iadd (pc := 224) cx dX10_strays_224 ?_
            refine r_iload_n (pc := 225) cx dX10_strays_225 3 rfl ?_
            refine r_iadd (pc := 226) cx dX10_strays_226 ?_
            obtain ⟨h55, hf⟩ := chk_of hf
            refine r_iald (pc := 227) cx 15 rfl h55 dX10_strays_227 ?_
            refine r_icmp_ne (pc := 228) (tgt := 235) cx dX10_strays_228 (by decide) (fun h56 => ?_) (fun h56 => ?_)
            · have hf := ifn h56 hf
              refine r_iconst (pc := 235) cx dX10_strays_235 ic_1 ?_
              refine r_iadd (pc := 236) cx dX10_strays_236 ?_
              obtain ⟨x57, ex57, hf⟩ := nm_of hf
              refine r_nm ex57 ?_
              refine r_istore_n (pc := 237) (loc' := [(2, .int x57), (0, .ref (q 0)), (1, .int a1), (3, .int x51)]) cx dX10_strays_237 rfl (by decide) rfl ?_
              obtain ⟨x58, ex58, hf⟩ := nm_of hf
              refine r_iinc (pc := 238) (loc' := [(3, .int x58), (2, .int x57), (0, .ref (q 0)), (1, .int a1)]) (v := x58) cx dX10_strays_238 3 rfl ((congrArg (fun z => x51 + z) ic_1).trans ex58.symm) (by decide) rfl ?_
              refine r_goto (pc := 241) (tgt := 203) cx dX10_strays_241 (by decide) ?_
              refine r_loc (loc' := [(0, .ref (q 0)), (1, .int a1), (2, .int x57), (3, .int x58)]) [2, 3, 1, 0] rfl ?_
              exact ih203 _ _ hf
            · have hf := ifp h56 hf
              refine r_iconst (pc := 231) cx dX10_strays_231 ic_0 ?_
              refine r_goto (pc := 232) (tgt := 236) cx dX10_strays_232 (by decide) ?_
              refine r_iadd (pc := 236) cx dX10_strays_236 ?_
              obtain ⟨x59, ex59, hf⟩ := nm_of hf
              refine r_nm ex59 ?_
              refine r_istore_n (pc := 237) (loc' := [(2, .int x59), (0, .ref (q 0)), (1, .int a1), (3, .int x51)]) cx dX10_strays_237 rfl (by decide) rfl ?_
              obtain ⟨x60, ex60, hf⟩ := nm_of hf
              refine r_iinc (pc := 238) (loc' := [(3, .int x60), (2, .int x59), (0, .ref (q 0)), (1, .int a1)]) (v := x60) cx dX10_strays_238 3 rfl ((congrArg (fun z => x51 + z) ic_1).trans ex60.symm) (by decide) rfl ?_
              refine r_goto (pc := 241) (tgt := 203) cx dX10_strays_241 (by decide) ?_
              refine r_loc (loc' := [(0, .ref (q 0)), (1, .int a1), (2, .int x59), (3, .int x60)]) [2, 3, 1, 0] rfl ?_
              exact ih203 _ _ hf
      refine r_loc (loc' := [(0, .ref (q 0)), (1, .int a1), (2, .int x41), (3, .int (0 : Int32))]) [1, 2, 3, 0] rfl ?_
      refine hL203 _ (fun x52 hf => ?_) _ _ _ hf
      refine r_iload_n (pc := 244) cx dX10_strays_244 0 rfl ?_
      cases hf
      exact r_iret (pc := 245) cx rfl rfl dX10_strays_245
    refine r_icmp_ne (pc := 148) (tgt := 155) cx dX10_strays_148 (by decide) (fun h61 => ?_) (fun h61 => ?_)
    · have hf := ifn h61 hf
      refine r_iconst (pc := 155) cx dX10_strays_155 ic_1 ?_
      exact hJ38 _ hf
    · have hf := ifp h61 hf
      refine r_iconst (pc := 151) cx dX10_strays_151 ic_0 ?_
      refine r_goto (pc := 152) (tgt := 156) cx dX10_strays_152 (by decide) ?_
      exact hJ38 _ hf
  · have hf := ifp h3 hf
    refine r_iconst (pc := 13) cx dX10_strays_13 ic_m1 ?_
    cases hf
    exact r_iret (pc := 14) cx rfl rfl dX10_strays_14
theorem yv_X10_strays : YV yX10_strays cX10_strays 4 (some .int) 1 := ⟨⟨by decide +kernel, by decide +kernel, by decide +kernel⟩, wd_1794, wd_102, wd_1792, wd_1793⟩
