def f_M_thrown (v : T_M) : Option (Int32) :=
  (some (M_thrown v))
abbrev rm_M_thrown : Room := { frames := 0, cells := 0, slots := 0, locals := 0 }
set_option maxRecDepth 100000 in
set_option maxHeartbeats 4000000 in
theorem m_M_thrown (l : Launch) (D : va_G) (K : Nat → ClassId) (q : Nat → Nat) (v : T_M) {r_ : Int32} (hf : f_M_thrown v = some r_) : MI l yX10_thrown cX10_thrown 1 (some .int) rm_M_thrown D K [.ref (q 0)] (cl_M K q v) r_ (cl_M K q v) := by
  refine MI_of (loc0 := [(0, .ref (q 0))]) (by decide +kernel) rfl (Nat.le_of_ble_eq_true rfl) ?_
  intro p e s m args below meth c A cx
  unfold f_M_thrown at hf
  refine r_ws (ws' := [((q 0), ob 9 [.int (M_thrown v), .ref (q 1), .int (M_taped (M_tp v)), .ref (q 2), .ref (q 3), .ref (q 4), .ref (q 5), .ref (q 6), .ref (q 7), .ref (q 8), .ref (q 9), .ref (q 10), .ref (q 11), .ref (q 12), .ref (q 13), .ref (q 14), .int (M_lines (M_rd v)), .int (M_size (M_rd v)), .int (M_at (M_rd v)), .int (M_place (M_rd v)), .int (M_sort (M_rd v)), .int (M_value (M_rd v)), .int (M_fault (M_rd v)), .int (M_faultPlace (M_rd v)), .int (M_lastFault (M_lf v)), .int (M_lastPlace (M_lf v)), .ref (q 15), .ref (q 16), .ref (q 17), .ref (q 18), .int (M_hasImage (M_im v)), .int (M_spanNow (M_rn v)), .ref (q 19), .int (M_placeThen (M_rn v)), .int (M_alonePlace (M_al v)), .int (M_aloneSteps (M_al v)), .int (M_aloneOut (M_al v)), .ref (q 20), .ref (q 21), .ref (q 22), .ref (q 23), .int (M_shotAlarm (M_ex v)), .int (M_drawn (M_ex v))]), ((q 1), aI K 700 (M_tape (M_tp v))), ((q 2), aI K 20 (M_number (M_cd v))), ((q 3), aZ K 5 (M_isTold (M_rd v))), ((q 4), aI K 80 (M_codeSort (M_cd v))), ((q 5), aI K 80 (M_codeA (M_cd v))), ((q 6), aI K 80 (M_codeB (M_cd v))), ((q 7), aI K 80 (M_codeC (M_cd v))), ((q 8), aI K 80 (M_codeName (M_cd v))), ((q 9), aI K 80 (M_codePlace (M_cd v))), ((q 10), aI K 80 (M_codeTo (M_cd v))), ((q 11), aI K 280 (M_labelName (M_cd v))), ((q 12), aI K 280 (M_labelAt (M_cd v))), ((q 13), aI K 64 (M_data (M_cd v))), ((q 14), aZ K 32 (M_hasData (M_rd v))), ((q 15), aI K 314 (M_s (M_rn v))), ((q 16), aI K 314 (M_aside (M_ex v))), ((q 17), aI K 314 (M_further (M_ex v))), ((q 18), aI K 314 (M_image (M_im v))), ((q 19), aI K 3 (M_sizeNow (M_rn v))), ((q 20), aI K 8 (M_aloneRegister (M_al v))), ((q 21), aI K 4 (M_aloneReal (M_al v))), ((q 22), aI K 32 (M_aloneMemory (M_al v))), ((q 23), aI K 999 (M_aloneOutput (M_al v)))]) rfl ?_
  refine r_aload_n (pc := 0) cx dX10_thrown_0 0 rfl ?_
  refine r_get (pc := 1) cx cf_X10 0 0 rfl (by decide) rfl wd_1316 dX10_thrown_1 ?_
  cases hf
  exact r_iret (pc := 4) cx rfl rfl dX10_thrown_4
theorem yv_X10_thrown : YV yX10_thrown cX10_thrown 1 (some .int) 0 := ⟨⟨by decide +kernel, by decide +kernel, by decide +kernel⟩, wd_1450, wd_102, wd_1448, wd_1449⟩
def f_M_feed_L20 (v : T_M) (a1 : Int32) (a2 : Int32) (a3 : Int32) (a4 : Int32) (a5 : Int32) (k20_110 : (Nat → Int32) → Option (Int32 × T_M)) : Nat → Int32 → (Nat → Int32) → Option (Int32 × T_M)
  | 0, _, _ => none
  | n20 + 1, x2, f3 =>
    (if (20 : Int32) ≤ x2 then (k20_110 f3) else (nm (fun (y6 : Int32) => ((nm ((y6 >>> (((24 : Int32) - ((8 : Int32) * (x2 - x2 / (4 : Int32) * (4 : Int32)))) &&& 31)) &&& (255 : Int32)) fun (x8 : Int32) => (if ix ((M_taped (M_tp v)) + x2) 700 then (nm (upd f3 (((M_taped (M_tp v)) + x2)).toNatClampNeg x8) fun (f10 : Nat → Int32) => (nm (x2 + (1 : Int32)) fun (x11 : Int32) => (f_M_feed_L20 v a1 a2 a3 a4 a5 k20_110 n20 x11 f10))) else none)) : Option (Int32 × T_M))) fun J7 => (if (4 : Int32) ≤ x2 then (if (8 : Int32) ≤ x2 then (if (12 : Int32) ≤ x2 then (if (16 : Int32) ≤ x2 then (J7 a5) else (J7 a4)) else (J7 a3)) else (J7 a2)) else (J7 a1))))
def f_M_feed (v : T_M) (a1 : Int32) (a2 : Int32) (a3 : Int32) (a4 : Int32) (a5 : Int32) : Option (Int32 × T_M) :=
  (if (M_taped (M_tp v)) ≤ (680 : Int32) then (f_M_feed_L20 v a1 a2 a3 a4 a5 (fun (f4 : (Nat → Int32)) => (nm ((M_taped (M_tp v)) + (20 : Int32)) fun (x16 : Int32) => (some (x16, ((f4, x16), (M_rd v), (M_lf v), (M_cd v), (M_rn v), (M_ex v), (M_im v), (M_al v), (0 : Int32)))))) LF (0 : Int32) (M_tape (M_tp v))) else (some ((-1 : Int32), ((M_tp v), (M_rd v), (M_lf v), (M_cd v), (M_rn v), (M_ex v), (M_im v), (M_al v), (0 : Int32)))))
abbrev rm_M_feed : Room := { frames := 0, cells := 0, slots := 0, locals := 0 }
set_option maxRecDepth 100000 in
set_option maxHeartbeats 4000000 in
theorem m_M_feed (l : Launch) (D : va_G) (K : Nat → ClassId) (q : Nat → Nat) (v : T_M) (a1 : Int32) (a2 : Int32) (a3 : Int32) (a4 : Int32) (a5 : Int32) {r_ : Int32} {o_v : T_M} (hf : f_M_feed v a1 a2 a3 a4 a5 = some (r_, o_v)) : MI l yX10_feed cX10_feed 8 (some .int) rm_M_feed D K [.ref (q 0), .int a1, .int a2, .int a3, .int a4, .int a5] (cl_M K q v) r_ (cl_M K q o_v) := by
  refine MI_of (loc0 := [(0, .ref (q 0)), (1, .int a1), (2, .int a2), (3, .int a3), (4, .int a4), (5, .int a5)]) (by decide +kernel) rfl (Nat.le_of_ble_eq_true rfl) ?_
  intro p e s m args below meth c A cx
  unfold f_M_feed at hf
  refine r_ws (ws' := [((q 0), ob 9 [.int (M_thrown v), .ref (q 1), .int (M_taped (M_tp v)), .ref (q 2), .ref (q 3), .ref (q 4), .ref (q 5), .ref (q 6), .ref (q 7), .ref (q 8), .ref (q 9), .ref (q 10), .ref (q 11), .ref (q 12), .ref (q 13), .ref (q 14), .int (M_lines (M_rd v)), .int (M_size (M_rd v)), .int (M_at (M_rd v)), .int (M_place (M_rd v)), .int (M_sort (M_rd v)), .int (M_value (M_rd v)), .int (M_fault (M_rd v)), .int (M_faultPlace (M_rd v)), .int (M_lastFault (M_lf v)), .int (M_lastPlace (M_lf v)), .ref (q 15), .ref (q 16), .ref (q 17), .ref (q 18), .int (M_hasImage (M_im v)), .int (M_spanNow (M_rn v)), .ref (q 19), .int (M_placeThen (M_rn v)), .int (M_alonePlace (M_al v)), .int (M_aloneSteps (M_al v)), .int (M_aloneOut (M_al v)), .ref (q 20), .ref (q 21), .ref (q 22), .ref (q 23), .int (M_shotAlarm (M_ex v)), .int (M_drawn (M_ex v))]), ((q 1), aI K 700 (M_tape (M_tp v))), ((q 2), aI K 20 (M_number (M_cd v))), ((q 3), aZ K 5 (M_isTold (M_rd v))), ((q 4), aI K 80 (M_codeSort (M_cd v))), ((q 5), aI K 80 (M_codeA (M_cd v))), ((q 6), aI K 80 (M_codeB (M_cd v))), ((q 7), aI K 80 (M_codeC (M_cd v))), ((q 8), aI K 80 (M_codeName (M_cd v))), ((q 9), aI K 80 (M_codePlace (M_cd v))), ((q 10), aI K 80 (M_codeTo (M_cd v))), ((q 11), aI K 280 (M_labelName (M_cd v))), ((q 12), aI K 280 (M_labelAt (M_cd v))), ((q 13), aI K 64 (M_data (M_cd v))), ((q 14), aZ K 32 (M_hasData (M_rd v))), ((q 15), aI K 314 (M_s (M_rn v))), ((q 16), aI K 314 (M_aside (M_ex v))), ((q 17), aI K 314 (M_further (M_ex v))), ((q 18), aI K 314 (M_image (M_im v))), ((q 19), aI K 3 (M_sizeNow (M_rn v))), ((q 20), aI K 8 (M_aloneRegister (M_al v))), ((q 21), aI K 4 (M_aloneReal (M_al v))), ((q 22), aI K 32 (M_aloneMemory (M_al v))), ((q 23), aI K 999 (M_aloneOutput (M_al v)))]) rfl ?_
  refine r_aload_n (pc := 0) cx dX10_feed_0 0 rfl ?_
  refine r_iconst (pc := 1) cx dX10_feed_1 ic_0 ?_
  refine r_putI (pc := 2) (ws' := [((q 0), ob 9 [.int (0 : Int32), .ref (q 1), .int (M_taped (M_tp v)), .ref (q 2), .ref (q 3), .ref (q 4), .ref (q 5), .ref (q 6), .ref (q 7), .ref (q 8), .ref (q 9), .ref (q 10), .ref (q 11), .ref (q 12), .ref (q 13), .ref (q 14), .int (M_lines (M_rd v)), .int (M_size (M_rd v)), .int (M_at (M_rd v)), .int (M_place (M_rd v)), .int (M_sort (M_rd v)), .int (M_value (M_rd v)), .int (M_fault (M_rd v)), .int (M_faultPlace (M_rd v)), .int (M_lastFault (M_lf v)), .int (M_lastPlace (M_lf v)), .ref (q 15), .ref (q 16), .ref (q 17), .ref (q 18), .int (M_hasImage (M_im v)), .int (M_spanNow (M_rn v)), .ref (q 19), .int (M_placeThen (M_rn v)), .int (M_alonePlace (M_al v)), .int (M_aloneSteps (M_al v)), .int (M_aloneOut (M_al v)), .ref (q 20), .ref (q 21), .ref (q 22), .ref (q 23), .int (M_shotAlarm (M_ex v)), .int (M_drawn (M_ex v))]), ((q 1), aI K 700 (M_tape (M_tp v))), ((q 2), aI K 20 (M_number (M_cd v))), ((q 3), aZ K 5 (M_isTold (M_rd v))), ((q 4), aI K 80 (M_codeSort (M_cd v))), ((q 5), aI K 80 (M_codeA (M_cd v))), ((q 6), aI K 80 (M_codeB (M_cd v))), ((q 7), aI K 80 (M_codeC (M_cd v))), ((q 8), aI K 80 (M_codeName (M_cd v))), ((q 9), aI K 80 (M_codePlace (M_cd v))), ((q 10), aI K 80 (M_codeTo (M_cd v))), ((q 11), aI K 280 (M_labelName (M_cd v))), ((q 12), aI K 280 (M_labelAt (M_cd v))), ((q 13), aI K 64 (M_data (M_cd v))), ((q 14), aZ K 32 (M_hasData (M_rd v))), ((q 15), aI K 314 (M_s (M_rn v))), ((q 16), aI K 314 (M_aside (M_ex v))), ((q 17), aI K 314 (M_further (M_ex v))), ((q 18), aI K 314 (M_image (M_im v))), ((q 19), aI K 3 (M_sizeNow (M_rn v))), ((q 20), aI K 8 (M_aloneRegister (M_al v))), ((q 21), aI K 4 (M_aloneReal (M_al v))), ((q 22), aI K 32 (M_aloneMemory (M_al v))), ((q 23), aI K 999 (M_aloneOutput (M_al v)))]) cx cf_X10 0 0 rfl (by decide) (Nat.le_of_ble_eq_true rfl) rfl pfd_I wd_1316 dX10_feed_2 rfl ?_
  refine r_aload_n (pc := 5) cx dX10_feed_5 0 rfl ?_
  refine r_get (pc := 6) cx cf_X10 0 2 rfl (by decide) rfl wd_1318 dX10_feed_6 ?_
  refine r_sipush (pc := 9) cx dX10_feed_9 sp_680 ?_
  refine r_icmp_le (pc := 12) (tgt := 17) cx dX10_feed_12 (by decide) (fun h1 => ?_) (fun h1 => ?_)
  · have hf := ifp h1 hf
    refine r_iconst (pc := 17) cx dX10_feed_17 ic_0 ?_
    refine r_istore (pc := 18) (loc' := [(6, .int (0 : Int32)), (0, .ref (q 0)), (1, .int a1), (2, .int a2), (3, .int a3), (4, .int a4), (5, .int a5)]) cx dX10_feed_18 (by decide) rfl ?_
    have hL20 : ∀ (k20_110 : (Nat → Int32) → Option (Int32 × T_M)), (∀ (f4 : (Nat → Int32)), k20_110 f4 = some (r_, o_v) → WW p l e rm_M_feed s m args below meth c D A 8 0 0 (MQ below (QI D K A r_ (cl_M K q o_v)) args s 0 0 A) ([((q 0), ob 9 [.int (0 : Int32), .ref (q 1), .int (M_taped (M_tp v)), .ref (q 2), .ref (q 3), .ref (q 4), .ref (q 5), .ref (q 6), .ref (q 7), .ref (q 8), .ref (q 9), .ref (q 10), .ref (q 11), .ref (q 12), .ref (q 13), .ref (q 14), .int (M_lines (M_rd v)), .int (M_size (M_rd v)), .int (M_at (M_rd v)), .int (M_place (M_rd v)), .int (M_sort (M_rd v)), .int (M_value (M_rd v)), .int (M_fault (M_rd v)), .int (M_faultPlace (M_rd v)), .int (M_lastFault (M_lf v)), .int (M_lastPlace (M_lf v)), .ref (q 15), .ref (q 16), .ref (q 17), .ref (q 18), .int (M_hasImage (M_im v)), .int (M_spanNow (M_rn v)), .ref (q 19), .int (M_placeThen (M_rn v)), .int (M_alonePlace (M_al v)), .int (M_aloneSteps (M_al v)), .int (M_aloneOut (M_al v)), .ref (q 20), .ref (q 21), .ref (q 22), .ref (q 23), .int (M_shotAlarm (M_ex v)), .int (M_drawn (M_ex v))]), ((q 1), aI K 700 f4), ((q 2), aI K 20 (M_number (M_cd v))), ((q 3), aZ K 5 (M_isTold (M_rd v))), ((q 4), aI K 80 (M_codeSort (M_cd v))), ((q 5), aI K 80 (M_codeA (M_cd v))), ((q 6), aI K 80 (M_codeB (M_cd v))), ((q 7), aI K 80 (M_codeC (M_cd v))), ((q 8), aI K 80 (M_codeName (M_cd v))), ((q 9), aI K 80 (M_codePlace (M_cd v))), ((q 10), aI K 80 (M_codeTo (M_cd v))), ((q 11), aI K 280 (M_labelName (M_cd v))), ((q 12), aI K 280 (M_labelAt (M_cd v))), ((q 13), aI K 64 (M_data (M_cd v))), ((q 14), aZ K 32 (M_hasData (M_rd v))), ((q 15), aI K 314 (M_s (M_rn v))), ((q 16), aI K 314 (M_aside (M_ex v))), ((q 17), aI K 314 (M_further (M_ex v))), ((q 18), aI K 314 (M_image (M_im v))), ((q 19), aI K 3 (M_sizeNow (M_rn v))), ((q 20), aI K 8 (M_aloneRegister (M_al v))), ((q 21), aI K 4 (M_aloneReal (M_al v))), ((q 22), aI K 32 (M_aloneMemory (M_al v))), ((q 23), aI K 999 (M_aloneOutput (M_al v)))]) ([(0, .ref (q 0))]) ([]) 110) → ∀ (n20 : Nat) (x2 : Int32) (f3 : (Nat → Int32)), f_M_feed_L20 v a1 a2 a3 a4 a5 k20_110 n20 x2 f3 = some (r_, o_v) → WW p l e rm_M_feed s m args below meth c D A 8 0 0 (MQ below (QI D K A r_ (cl_M K q o_v)) args s 0 0 A) ([((q 0), ob 9 [.int (0 : Int32), .ref (q 1), .int (M_taped (M_tp v)), .ref (q 2), .ref (q 3), .ref (q 4), .ref (q 5), .ref (q 6), .ref (q 7), .ref (q 8), .ref (q 9), .ref (q 10), .ref (q 11), .ref (q 12), .ref (q 13), .ref (q 14), .int (M_lines (M_rd v)), .int (M_size (M_rd v)), .int (M_at (M_rd v)), .int (M_place (M_rd v)), .int (M_sort (M_rd v)), .int (M_value (M_rd v)), .int (M_fault (M_rd v)), .int (M_faultPlace (M_rd v)), .int (M_lastFault (M_lf v)), .int (M_lastPlace (M_lf v)), .ref (q 15), .ref (q 16), .ref (q 17), .ref (q 18), .int (M_hasImage (M_im v)), .int (M_spanNow (M_rn v)), .ref (q 19), .int (M_placeThen (M_rn v)), .int (M_alonePlace (M_al v)), .int (M_aloneSteps (M_al v)), .int (M_aloneOut (M_al v)), .ref (q 20), .ref (q 21), .ref (q 22), .ref (q 23), .int (M_shotAlarm (M_ex v)), .int (M_drawn (M_ex v))]), ((q 1), aI K 700 f3), ((q 2), aI K 20 (M_number (M_cd v))), ((q 3), aZ K 5 (M_isTold (M_rd v))), ((q 4), aI K 80 (M_codeSort (M_cd v))), ((q 5), aI K 80 (M_codeA (M_cd v))), ((q 6), aI K 80 (M_codeB (M_cd v))), ((q 7), aI K 80 (M_codeC (M_cd v))), ((q 8), aI K 80 (M_codeName (M_cd v))), ((q 9), aI K 80 (M_codePlace (M_cd v))), ((q 10), aI K 80 (M_codeTo (M_cd v))), ((q 11), aI K 280 (M_labelName (M_cd v))), ((q 12), aI K 280 (M_labelAt (M_cd v))), ((q 13), aI K 64 (M_data (M_cd v))), ((q 14), aZ K 32 (M_hasData (M_rd v))), ((q 15), aI K 314 (M_s (M_rn v))), ((q 16), aI K 314 (M_aside (M_ex v))), ((q 17), aI K 314 (M_further (M_ex v))), ((q 18), aI K 314 (M_image (M_im v))), ((q 19), aI K 3 (M_sizeNow (M_rn v))), ((q 20), aI K 8 (M_aloneRegister (M_al v))), ((q 21), aI K 4 (M_aloneReal (M_al v))), ((q 22), aI K 32 (M_aloneMemory (M_al v))), ((q 23), aI K 999 (M_aloneOutput (M_al v)))]) ([(0, .ref (q 0)), (1, .int a1), (2, .int a2), (3, .int a3), (4, .int a4), (5, .int a5), (6, .int x2)]) ([]) 20 := by
      intro k20_110 hk20_110 n20
      induction n20 with
      | zero => intro x2 f3 hf; exact (nomatch (show (none : Option (Int32 × T_M)) = some _ from hf))
      | succ n20 ih20 =>
        intro x2 f3 hf
        rw [f_M_feed_L20] at hf
        refine r_iload (pc := 20) cx dX10_feed_20 6 rfl ?_
        refine r_bipush (pc := 22) cx dX10_feed_22 bp_20 ?_
        refine r_icmp_ge (pc := 24) (tgt := 110) cx dX10_feed_24 (by decide) (fun h5 => ?_) (fun h5 => ?_)
        · have hf := ifp h5 hf
          refine r_loc (loc' := [(0, .ref (q 0))]) [0] rfl ?_
          exact hk20_110 _ hf
        · have hf := ifn h5 hf
          refine r_iload (pc := 27) cx dX10_feed_27 6 rfl ?_
          refine r_iconst (pc := 29) cx dX10_feed_29 ic_4 ?_
          obtain ⟨J7, eJ7, hf⟩ := nm_of hf
          have hJ7 : ∀ (y6 : Int32), J7 y6 = some (r_, o_v) → WW p l e rm_M_feed s m args below meth c D A 8 0 0 (MQ below (QI D K A r_ (cl_M K q o_v)) args s 0 0 A) ([((q 0), ob 9 [.int (0 : Int32), .ref (q 1), .int (M_taped (M_tp v)), .ref (q 2), .ref (q 3), .ref (q 4), .ref (q 5), .ref (q 6), .ref (q 7), .ref (q 8), .ref (q 9), .ref (q 10), .ref (q 11), .ref (q 12), .ref (q 13), .ref (q 14), .int (M_lines (M_rd v)), .int (M_size (M_rd v)), .int (M_at (M_rd v)), .int (M_place (M_rd v)), .int (M_sort (M_rd v)), .int (M_value (M_rd v)), .int (M_fault (M_rd v)), .int (M_faultPlace (M_rd v)), .int (M_lastFault (M_lf v)), .int (M_lastPlace (M_lf v)), .ref (q 15), .ref (q 16), .ref (q 17), .ref (q 18), .int (M_hasImage (M_im v)), .int (M_spanNow (M_rn v)), .ref (q 19), .int (M_placeThen (M_rn v)), .int (M_alonePlace (M_al v)), .int (M_aloneSteps (M_al v)), .int (M_aloneOut (M_al v)), .ref (q 20), .ref (q 21), .ref (q 22), .ref (q 23), .int (M_shotAlarm (M_ex v)), .int (M_drawn (M_ex v))]), ((q 1), aI K 700 f3), ((q 2), aI K 20 (M_number (M_cd v))), ((q 3), aZ K 5 (M_isTold (M_rd v))), ((q 4), aI K 80 (M_codeSort (M_cd v))), ((q 5), aI K 80 (M_codeA (M_cd v))), ((q 6), aI K 80 (M_codeB (M_cd v))), ((q 7), aI K 80 (M_codeC (M_cd v))), ((q 8), aI K 80 (M_codeName (M_cd v))), ((q 9), aI K 80 (M_codePlace (M_cd v))), ((q 10), aI K 80 (M_codeTo (M_cd v))), ((q 11), aI K 280 (M_labelName (M_cd v))), ((q 12), aI K 280 (M_labelAt (M_cd v))), ((q 13), aI K 64 (M_data (M_cd v))), ((q 14), aZ K 32 (M_hasData (M_rd v))), ((q 15), aI K 314 (M_s (M_rn v))), ((q 16), aI K 314 (M_aside (M_ex v))), ((q 17), aI K 314 (M_further (M_ex v))), ((q 18), aI K 314 (M_image (M_im v))), ((q 19), aI K 3 (M_sizeNow (M_rn v))), ((q 20), aI K 8 (M_aloneRegister (M_al v))), ((q 21), aI K 4 (M_aloneReal (M_al v))), ((q 22), aI K 32 (M_aloneMemory (M_al v))), ((q 23), aI K 999 (M_aloneOutput (M_al v)))]) ([(0, .ref (q 0)), (1, .int a1), (2, .int a2), (3, .int a3), (4, .int a4), (5, .int a5), (6, .int x2)]) ([.int y6]) 73 := by
            intro y6 hf
            rw [eJ7] at hf
            refine r_istore (pc := 73) (loc' := [(7, .int y6), (0, .ref (q 0)), (1, .int a1), (2, .int a2), (3, .int a3), (4, .int a4), (5, .int a5), (6, .int x2)]) cx dX10_feed_73 (by decide) rfl ?_
            refine r_aload_n (pc := 75) cx dX10_feed_75 1 rfl ?_
            refine r_get (pc := 76) cx cf_X10 0 1 rfl (by decide) rfl wd_1317 dX10_feed_76 ?_
            refine r_aload_n (pc := 79) cx dX10_feed_79 1 rfl ?_
            refine r_get (pc := 80) cx cf_X10 0 2 rfl (by decide) rfl wd_1318 dX10_feed_80 ?_
            refine r_iload (pc := 83) cx dX10_feed_83 7 rfl ?_
            refine r_iadd (pc := 85) cx dX10_feed_85 ?_
            refine r_iload (pc := 86) cx dX10_feed_86 0 rfl ?_
            refine r_bipush (pc := 88) cx dX10_feed_88 bp_24 ?_
            refine r_bipush (pc := 90) cx dX10_feed_90 bp_8 ?_
            refine r_iload (pc := 92) cx dX10_feed_92 7 rfl ?_
            refine r_iconst (pc := 94) cx dX10_feed_94 ic_4 ?_
            refine r_irem (pc := 95) cx dX10_feed_95 (by decide) ?_
            refine r_imul (pc := 96) cx dX10_feed_96 ?_
            refine r_isub (pc := 97) cx dX10_feed_97 ?_
            refine r_ishr (pc := 98) cx dX10_feed_98 ?_
            refine r_sipush (pc := 99) cx dX10_feed_99 sp_255 ?_
            refine r_iand (pc := 102) cx dX10_feed_102 ?_
            obtain ⟨x8, ex8, hf⟩ := nm_of hf
            refine r_nm ex8 ?_
            obtain ⟨h9, hf⟩ := chk_of hf
            obtain ⟨f10, ef10, hf⟩ := nm_of hf
            refine r_iast (pc := 103) (ws' := [((q 0), ob 9 [.int (0 : Int32), .ref (q 1), .int (M_taped (M_tp v)), .ref (q 2), .ref (q 3), .ref (q 4), .ref (q 5), .ref (q 6), .ref (q 7), .ref (q 8), .ref (q 9), .ref (q 10), .ref (q 11), .ref (q 12), .ref (q 13), .ref (q 14), .int (M_lines (M_rd v)), .int (M_size (M_rd v)), .int (M_at (M_rd v)), .int (M_place (M_rd v)), .int (M_sort (M_rd v)), .int (M_value (M_rd v)), .int (M_fault (M_rd v)), .int (M_faultPlace (M_rd v)), .int (M_lastFault (M_lf v)), .int (M_lastPlace (M_lf v)), .ref (q 15), .ref (q 16), .ref (q 17), .ref (q 18), .int (M_hasImage (M_im v)), .int (M_spanNow (M_rn v)), .ref (q 19), .int (M_placeThen (M_rn v)), .int (M_alonePlace (M_al v)), .int (M_aloneSteps (M_al v)), .int (M_aloneOut (M_al v)), .ref (q 20), .ref (q 21), .ref (q 22), .ref (q 23), .int (M_shotAlarm (M_ex v)), .int (M_drawn (M_ex v))]), ((q 1), aI K 700 f10), ((q 2), aI K 20 (M_number (M_cd v))), ((q 3), aZ K 5 (M_isTold (M_rd v))), ((q 4), aI K 80 (M_codeSort (M_cd v))), ((q 5), aI K 80 (M_codeA (M_cd v))), ((q 6), aI K 80 (M_codeB (M_cd v))), ((q 7), aI K 80 (M_codeC (M_cd v))), ((q 8), aI K 80 (M_codeName (M_cd v))), ((q 9), aI K 80 (M_codePlace (M_cd v))), ((q 10), aI K 80 (M_codeTo (M_cd v))), ((q 11), aI K 280 (M_labelName (M_cd v))), ((q 12), aI K 280 (M_labelAt (M_cd v))), ((q 13), aI K 64 (M_data (M_cd v))), ((q 14), aZ K 32 (M_hasData (M_rd v))), ((q 15), aI K 314 (M_s (M_rn v))), ((q 16), aI K 314 (M_aside (M_ex v))), ((q 17), aI K 314 (M_further (M_ex v))), ((q 18), aI K 314 (M_image (M_im v))), ((q 19), aI K 3 (M_sizeNow (M_rn v))), ((q 20), aI K 8 (M_aloneRegister (M_al v))), ((q 21), aI K 4 (M_aloneReal (M_al v))), ((q 22), aI K 32 (M_aloneMemory (M_al v))), ((q 23), aI K 999 (M_aloneOutput (M_al v)))]) cx 1 rfl h9 dX10_feed_103 ef10 rfl ?_
            obtain ⟨x11, ex11, hf⟩ := nm_of hf
            refine r_iinc (pc := 104) (loc' := [(6, .int x11), (7, .int y6), (0, .ref (q 0)), (1, .int a1), (2, .int a2), (3, .int a3), (4, .int a4), (5, .int a5)]) (v := x11) cx dX10_feed_104 7 rfl ((congrArg (fun z => x2 + z) ic_1).trans ex11.symm) (by decide) rfl ?_
            refine r_goto (pc := 107) (tgt := 20) cx dX10_feed_107 (by decide) ?_
            refine r_loc (loc' := [(0, .ref (q 0)), (1, .int a1), (2, .int a2), (3, .int a3), (4, .int a4), (5, .int a5), (6, .int x11)]) [2, 3, 4, 5, 6, 7, 0] rfl ?_
            exact ih20 _ _ hf
          refine r_icmp_ge (pc := 30) (tgt := 37) cx dX10_feed_30 (by decide) (fun h12 => ?_) (fun h12 => ?_)
          · have hf := ifp h12 hf
            refine r_iload (pc := 37) cx dX10_feed_37 6 rfl ?_
            refine r_bipush (pc := 39) cx dX10_feed_39 bp_8 ?_
            refine r_icmp_ge (pc := 41) (tgt := 48) cx dX10_feed_41 (by decide) (fun h13 => ?_) (fun h13 => ?_)
            · have hf := ifp h13 hf
              refine r_iload (pc := 48) cx dX10_feed_48 6 rfl ?_
              refine r_bipush (pc := 50) cx dX10_feed_50 bp_12 ?_
              refine r_icmp_ge (pc := 52) (tgt := 59) cx dX10_feed_52 (by decide) (fun h14 => ?_) (fun h14 => ?_)
              · have hf := ifp h14 hf
                refine r_iload (pc := 59) cx dX10_feed_59 6 rfl ?_
                refine r_bipush (pc := 61) cx dX10_feed_61 bp_16 ?_
                refine r_icmp_ge (pc := 63) (tgt := 71) cx dX10_feed_63 (by decide) (fun h15 => ?_) (fun h15 => ?_)
                · have hf := ifp h15 hf
                  refine r_iload (pc := 71) cx dX10_feed_71 5 rfl ?_
                  exact hJ7 _ hf
                · have hf := ifn h15 hf
                  refine r_iload (pc := 66) cx dX10_feed_66 4 rfl ?_
                  refine r_goto (pc := 68) (tgt := 73) cx dX10_feed_68 (by decide) ?_
                  exact hJ7 _ hf
              · have hf := ifn h14 hf
                refine r_iload_n (pc := 55) cx dX10_feed_55 3 rfl ?_
                refine r_goto (pc := 56) (tgt := 73) cx dX10_feed_56 (by decide) ?_
                exact hJ7 _ hf
            · have hf := ifn h13 hf
              refine r_iload_n (pc := 44) cx dX10_feed_44 2 rfl ?_
              refine r_goto (pc := 45) (tgt := 73) cx dX10_feed_45 (by decide) ?_
              exact hJ7 _ hf
          · have hf := ifn h12 hf
            refine r_iload_n (pc := 33) cx dX10_feed_33 1 rfl ?_
            refine r_goto (pc := 34) (tgt := 73) cx dX10_feed_34 (by decide) ?_
            exact hJ7 _ hf
    refine r_loc (loc' := [(0, .ref (q 0)), (1, .int a1), (2, .int a2), (3, .int a3), (4, .int a4), (5, .int a5), (6, .int (0 : Int32))]) [1, 2, 3, 4, 5, 6, 0] rfl ?_
    refine hL20 _ (fun f4 hf => ?_) _ _ _ hf
    refine r_aload_n (pc := 110) cx dX10_feed_110 0 rfl ?_
    refine r_dup (pc := 111) cx dX10_feed_111 rfl ?_
    refine r_get (pc := 112) cx cf_X10 0 2 rfl (by decide) rfl wd_1318 dX10_feed_112 ?_
    refine r_bipush (pc := 115) cx dX10_feed_115 bp_20 ?_
    refine r_iadd (pc := 117) cx dX10_feed_117 ?_
    obtain ⟨x16, ex16, hf⟩ := nm_of hf
    refine r_nm ex16 ?_
    refine r_putI (pc := 118) (ws' := [((q 0), ob 9 [.int (0 : Int32), .ref (q 1), .int x16, .ref (q 2), .ref (q 3), .ref (q 4), .ref (q 5), .ref (q 6), .ref (q 7), .ref (q 8), .ref (q 9), .ref (q 10), .ref (q 11), .ref (q 12), .ref (q 13), .ref (q 14), .int (M_lines (M_rd v)), .int (M_size (M_rd v)), .int (M_at (M_rd v)), .int (M_place (M_rd v)), .int (M_sort (M_rd v)), .int (M_value (M_rd v)), .int (M_fault (M_rd v)), .int (M_faultPlace (M_rd v)), .int (M_lastFault (M_lf v)), .int (M_lastPlace (M_lf v)), .ref (q 15), .ref (q 16), .ref (q 17), .ref (q 18), .int (M_hasImage (M_im v)), .int (M_spanNow (M_rn v)), .ref (q 19), .int (M_placeThen (M_rn v)), .int (M_alonePlace (M_al v)), .int (M_aloneSteps (M_al v)), .int (M_aloneOut (M_al v)), .ref (q 20), .ref (q 21), .ref (q 22), .ref (q 23), .int (M_shotAlarm (M_ex v)), .int (M_drawn (M_ex v))]), ((q 1), aI K 700 f4), ((q 2), aI K 20 (M_number (M_cd v))), ((q 3), aZ K 5 (M_isTold (M_rd v))), ((q 4), aI K 80 (M_codeSort (M_cd v))), ((q 5), aI K 80 (M_codeA (M_cd v))), ((q 6), aI K 80 (M_codeB (M_cd v))), ((q 7), aI K 80 (M_codeC (M_cd v))), ((q 8), aI K 80 (M_codeName (M_cd v))), ((q 9), aI K 80 (M_codePlace (M_cd v))), ((q 10), aI K 80 (M_codeTo (M_cd v))), ((q 11), aI K 280 (M_labelName (M_cd v))), ((q 12), aI K 280 (M_labelAt (M_cd v))), ((q 13), aI K 64 (M_data (M_cd v))), ((q 14), aZ K 32 (M_hasData (M_rd v))), ((q 15), aI K 314 (M_s (M_rn v))), ((q 16), aI K 314 (M_aside (M_ex v))), ((q 17), aI K 314 (M_further (M_ex v))), ((q 18), aI K 314 (M_image (M_im v))), ((q 19), aI K 3 (M_sizeNow (M_rn v))), ((q 20), aI K 8 (M_aloneRegister (M_al v))), ((q 21), aI K 4 (M_aloneReal (M_al v))), ((q 22), aI K 32 (M_aloneMemory (M_al v))), ((q 23), aI K 999 (M_aloneOutput (M_al v)))]) cx cf_X10 0 2 rfl (by decide) (Nat.le_of_ble_eq_true rfl) rfl pfd_I wd_1318 dX10_feed_118 rfl ?_
    refine r_aload_n (pc := 121) cx dX10_feed_121 0 rfl ?_
    refine r_get (pc := 122) cx cf_X10 0 2 rfl (by decide) rfl wd_1318 dX10_feed_122 ?_
    cases hf
    exact r_iret (pc := 125) cx rfl rfl dX10_feed_125
  · have hf := ifn h1 hf
    refine r_iconst (pc := 15) cx dX10_feed_15 ic_m1 ?_
    cases hf
    exact r_iret (pc := 16) cx rfl rfl dX10_feed_16
theorem yv_X10_feed : YV yX10_feed cX10_feed 8 (some .int) 5 := ⟨⟨by decide +kernel, by decide +kernel, by decide +kernel⟩, wd_1454, wd_102, wd_1452, wd_1453⟩
def f_M_here (v : T_M) : Option (Int32) :=
  (if (M_size (M_rd v)) ≤ (M_at (M_rd v)) then (some (-1 : Int32)) else (if ix (M_at (M_rd v)) 700 then (some ((M_tape (M_tp v)) ((M_at (M_rd v))).toNatClampNeg)) else none))
abbrev rm_M_here : Room := { frames := 0, cells := 0, slots := 0, locals := 0 }
set_option maxRecDepth 100000 in
set_option maxHeartbeats 4000000 in
theorem m_M_here (l : Launch) (D : va_G) (K : Nat → ClassId) (q : Nat → Nat) (v : T_M) {r_ : Int32} (hf : f_M_here v = some r_) : MI l yX10_here cX10_here 1 (some .int) rm_M_here D K [.ref (q 0)] (cl_M K q v) r_ (cl_M K q v) := by
  refine MI_of (loc0 := [(0, .ref (q 0))]) (by decide +kernel) rfl (Nat.le_of_ble_eq_true rfl) ?_
  intro p e s m args below meth c A cx
  unfold f_M_here at hf
  refine r_ws (ws' := [((q 0), ob 9 [.int (M_thrown v), .ref (q 1), .int (M_taped (M_tp v)), .ref (q 2), .ref (q 3), .ref (q 4), .ref (q 5), .ref (q 6), .ref (q 7), .ref (q 8), .ref (q 9), .ref (q 10), .ref (q 11), .ref (q 12), .ref (q 13), .ref (q 14), .int (M_lines (M_rd v)), .int (M_size (M_rd v)), .int (M_at (M_rd v)), .int (M_place (M_rd v)), .int (M_sort (M_rd v)), .int (M_value (M_rd v)), .int (M_fault (M_rd v)), .int (M_faultPlace (M_rd v)), .int (M_lastFault (M_lf v)), .int (M_lastPlace (M_lf v)), .ref (q 15), .ref (q 16), .ref (q 17), .ref (q 18), .int (M_hasImage (M_im v)), .int (M_spanNow (M_rn v)), .ref (q 19), .int (M_placeThen (M_rn v)), .int (M_alonePlace (M_al v)), .int (M_aloneSteps (M_al v)), .int (M_aloneOut (M_al v)), .ref (q 20), .ref (q 21), .ref (q 22), .ref (q 23), .int (M_shotAlarm (M_ex v)), .int (M_drawn (M_ex v))]), ((q 1), aI K 700 (M_tape (M_tp v))), ((q 2), aI K 20 (M_number (M_cd v))), ((q 3), aZ K 5 (M_isTold (M_rd v))), ((q 4), aI K 80 (M_codeSort (M_cd v))), ((q 5), aI K 80 (M_codeA (M_cd v))), ((q 6), aI K 80 (M_codeB (M_cd v))), ((q 7), aI K 80 (M_codeC (M_cd v))), ((q 8), aI K 80 (M_codeName (M_cd v))), ((q 9), aI K 80 (M_codePlace (M_cd v))), ((q 10), aI K 80 (M_codeTo (M_cd v))), ((q 11), aI K 280 (M_labelName (M_cd v))), ((q 12), aI K 280 (M_labelAt (M_cd v))), ((q 13), aI K 64 (M_data (M_cd v))), ((q 14), aZ K 32 (M_hasData (M_rd v))), ((q 15), aI K 314 (M_s (M_rn v))), ((q 16), aI K 314 (M_aside (M_ex v))), ((q 17), aI K 314 (M_further (M_ex v))), ((q 18), aI K 314 (M_image (M_im v))), ((q 19), aI K 3 (M_sizeNow (M_rn v))), ((q 20), aI K 8 (M_aloneRegister (M_al v))), ((q 21), aI K 4 (M_aloneReal (M_al v))), ((q 22), aI K 32 (M_aloneMemory (M_al v))), ((q 23), aI K 999 (M_aloneOutput (M_al v)))]) rfl ?_
  refine r_aload_n (pc := 0) cx dX10_here_0 0 rfl ?_
  refine r_get (pc := 1) cx cf_X10 0 18 rfl (by decide) rfl wd_1334 dX10_here_1 ?_
  refine r_aload_n (pc := 4) cx dX10_here_4 0 rfl ?_
  refine r_get (pc := 5) cx cf_X10 0 17 rfl (by decide) rfl wd_1333 dX10_here_5 ?_
  refine r_icmp_ge (pc := 8) (tgt := 23) cx dX10_here_8 (by decide) (fun h1 => ?_) (fun h1 => ?_)
  · have hf := ifp h1 hf
    refine r_iconst (pc := 23) cx dX10_here_23 ic_m1 ?_
    cases hf
    exact r_iret (pc := 24) cx rfl rfl dX10_here_24
  · have hf := ifn h1 hf
    refine r_aload_n (pc := 11) cx dX10_here_11 0 rfl ?_
    refine r_get (pc := 12) cx cf_X10 0 1 rfl (by decide) rfl wd_1317 dX10_here_12 ?_
    refine r_aload_n (pc := 15) cx dX10_here_15 0 rfl ?_
    refine r_get (pc := 16) cx cf_X10 0 18 rfl (by decide) rfl wd_1334 dX10_here_16 ?_
    obtain ⟨h2, hf⟩ := chk_of hf
    refine r_iald (pc := 19) cx 1 rfl h2 dX10_here_19 ?_
    refine r_goto (pc := 20) (tgt := 24) cx dX10_here_20 (by decide) ?_
    cases hf
    exact r_iret (pc := 24) cx rfl rfl dX10_here_24
theorem yv_X10_here : YV yX10_here cX10_here 1 (some .int) 0 := ⟨⟨by decide +kernel, by decide +kernel, by decide +kernel⟩, wd_1470, wd_102, wd_1469, wd_33⟩
def f_M_isSmall (a0 : Int32) : Option (Int32) :=
  (if a0 < (97 : Int32) then (some (0 : Int32)) else (if (122 : Int32) < a0 then (some (0 : Int32)) else (some (1 : Int32))))
abbrev rm_M_isSmall : Room := { frames := 0, cells := 0, slots := 0, locals := 0 }
set_option maxRecDepth 100000 in
set_option maxHeartbeats 4000000 in
theorem m_M_isSmall (l : Launch) (D : va_G) (K : Nat → ClassId) (a0 : Int32) {r_ : Int32} (hf : f_M_isSmall a0 = some r_) : MI l yX10_isSmall cX10_isSmall 1 (some .boolean) rm_M_isSmall D K [.int a0] ([]) r_ ([]) := by
  refine MI_of (loc0 := [(0, .int a0)]) (by decide +kernel) rfl (Nat.le_of_ble_eq_true rfl) ?_
  intro p e s m args below meth c A cx
  unfold f_M_isSmall at hf
  refine r_ws (ws' := []) rfl ?_
  refine r_iload_n (pc := 0) cx dX10_isSmall_0 0 rfl ?_
  refine r_bipush (pc := 1) cx dX10_isSmall_1 bp_97 ?_
  refine r_icmp_lt (pc := 3) (tgt := 16) cx dX10_isSmall_3 (by decide) (fun h1 => ?_) (fun h1 => ?_)
  · have hf := ifp h1 hf
    refine r_iconst (pc := 16) cx dX10_isSmall_16 ic_0 ?_
    cases hf
    exact r_zret (pc := 17) cx (Or.inl rfl) rfl rfl dX10_isSmall_17
  · have hf := ifn h1 hf
    refine r_iload_n (pc := 6) cx dX10_isSmall_6 0 rfl ?_
    refine r_bipush (pc := 7) cx dX10_isSmall_7 bp_122 ?_
    refine r_icmp_gt (pc := 9) (tgt := 16) cx dX10_isSmall_9 (by decide) (fun h2 => ?_) (fun h2 => ?_)
    · have hf := ifp h2 hf
      refine r_iconst (pc := 16) cx dX10_isSmall_16 ic_0 ?_
      cases hf
      exact r_zret (pc := 17) cx (Or.inl rfl) rfl rfl dX10_isSmall_17
    · have hf := ifn h2 hf
      refine r_iconst (pc := 12) cx dX10_isSmall_12 ic_1 ?_
      refine r_goto (pc := 13) (tgt := 17) cx dX10_isSmall_13 (by decide) ?_
      cases hf
      exact r_zret (pc := 17) cx (Or.inr rfl) rfl rfl dX10_isSmall_17
theorem ys_X10_isSmall : YS yX10_isSmall cX10_isSmall 1 (some .boolean) 1 := ⟨⟨by decide +kernel, by decide +kernel, by decide +kernel⟩, wd_1473, wd_102, wd_1472⟩
def f_M_isDigit (a0 : Int32) : Option (Int32) :=
  (if a0 < (48 : Int32) then (some (0 : Int32)) else (if (57 : Int32) < a0 then (some (0 : Int32)) else (some (1 : Int32))))
abbrev rm_M_isDigit : Room := { frames := 0, cells := 0, slots := 0, locals := 0 }
set_option maxRecDepth 100000 in
set_option maxHeartbeats 4000000 in
theorem m_M_isDigit (l : Launch) (D : va_G) (K : Nat → ClassId) (a0 : Int32) {r_ : Int32} (hf : f_M_isDigit a0 = some r_) : MI l yX10_isDigit cX10_isDigit 1 (some .boolean) rm_M_isDigit D K [.int a0] ([]) r_ ([]) := by
  refine MI_of (loc0 := [(0, .int a0)]) (by decide +kernel) rfl (Nat.le_of_ble_eq_true rfl) ?_
  intro p e s m args below meth c A cx
  unfold f_M_isDigit at hf
  refine r_ws (ws' := []) rfl ?_
  refine r_iload_n (pc := 0) cx dX10_isDigit_0 0 rfl ?_
  refine r_bipush (pc := 1) cx dX10_isDigit_1 bp_48 ?_
  refine r_icmp_lt (pc := 3) (tgt := 16) cx dX10_isDigit_3 (by decide) (fun h1 => ?_) (fun h1 => ?_)
  · have hf := ifp h1 hf
    refine r_iconst (pc := 16) cx dX10_isDigit_16 ic_0 ?_
    cases hf
    exact r_zret (pc := 17) cx (Or.inl rfl) rfl rfl dX10_isDigit_17
  · have hf := ifn h1 hf
    refine r_iload_n (pc := 6) cx dX10_isDigit_6 0 rfl ?_
    refine r_bipush (pc := 7) cx dX10_isDigit_7 bp_57 ?_
    refine r_icmp_gt (pc := 9) (tgt := 16) cx dX10_isDigit_9 (by decide) (fun h2 => ?_) (fun h2 => ?_)
    · have hf := ifp h2 hf
      refine r_iconst (pc := 16) cx dX10_isDigit_16 ic_0 ?_
      cases hf
      exact r_zret (pc := 17) cx (Or.inl rfl) rfl rfl dX10_isDigit_17
    · have hf := ifn h2 hf
      refine r_iconst (pc := 12) cx dX10_isDigit_12 ic_1 ?_
      refine r_goto (pc := 13) (tgt := 17) cx dX10_isDigit_13 (by decide) ?_
      cases hf
      exact r_zret (pc := 17) cx (Or.inr rfl) rfl rfl dX10_isDigit_17
theorem ys_X10_isDigit : YS yX10_isDigit cX10_isDigit 1 (some .boolean) 1 := ⟨⟨by decide +kernel, by decide +kernel, by decide +kernel⟩, wd_1487, wd_102, wd_1486⟩
def f_M_nameHere_L7 (v : T_M) (k7_63 : Int32 → Option (T_M)) : Nat → Int32 → Int32 → Option (T_M)
  | 0, _, _ => none
  | n7 + 1, x1, x2 =>
    (if (6 : Int32) ≤ x1 then (k7_63 x2) else (if (M_at (M_rd v)) ≤ ((M_place (M_rd v)) + x1) then (nm ((x2 <<< ((5 : Int32) &&& 31)) ||| (0 : Int32)) fun (x6 : Int32) => (nm (x1 + (1 : Int32)) fun (x7 : Int32) => (f_M_nameHere_L7 v k7_63 n7 x7 x6))) else (if ix ((M_place (M_rd v)) + x1) 700 then (nm ((x2 <<< ((5 : Int32) &&& 31)) ||| ((((M_tape (M_tp v)) (((M_place (M_rd v)) + x1)).toNatClampNeg) - (97 : Int32)) + (1 : Int32))) fun (x9 : Int32) => (nm (x1 + (1 : Int32)) fun (x10 : Int32) => (f_M_nameHere_L7 v k7_63 n7 x10 x9))) else none)))
def f_M_nameHere (v : T_M) : Option (T_M) :=
  (f_M_nameHere_L7 v (fun (x3 : Int32) => (some ((M_tp v), ((M_lines (M_rd v)), (M_size (M_rd v)), (M_at (M_rd v)), (M_place (M_rd v)), (M_sort (M_rd v)), x3, (M_fault (M_rd v)), (M_faultPlace (M_rd v)), (M_isTold (M_rd v)), (M_hasData (M_rd v))), (M_lf v), (M_cd v), (M_rn v), (M_ex v), (M_im v), (M_al v), (M_thrown v)))) LF (0 : Int32) (0 : Int32))
abbrev rm_M_nameHere : Room := { frames := 0, cells := 0, slots := 0, locals := 0 }
set_option maxRecDepth 100000 in
set_option maxHeartbeats 4000000 in
theorem m_M_nameHere (l : Launch) (D : va_G) (K : Nat → ClassId) (q : Nat → Nat) (v : T_M) {o_v : T_M} (hf : f_M_nameHere v = some o_v) : MV l yX10_nameHere cX10_nameHere 2 (none) rm_M_nameHere D K [.ref (q 0)] (cl_M K q v) (cl_M K q o_v) := by
  refine MV_of (loc0 := [(0, .ref (q 0))]) (by decide +kernel) rfl (Nat.le_of_ble_eq_true rfl) ?_
  intro p e s m args below meth c A cx
  unfold f_M_nameHere at hf
  refine r_ws (ws' := [((q 0), ob 9 [.int (M_thrown v), .ref (q 1), .int (M_taped (M_tp v)), .ref (q 2), .ref (q 3), .ref (q 4), .ref (q 5), .ref (q 6), .ref (q 7), .ref (q 8), .ref (q 9), .ref (q 10), .ref (q 11), .ref (q 12), .ref (q 13), .ref (q 14), .int (M_lines (M_rd v)), .int (M_size (M_rd v)), .int (M_at (M_rd v)), .int (M_place (M_rd v)), .int (M_sort (M_rd v)), .int (M_value (M_rd v)), .int (M_fault (M_rd v)), .int (M_faultPlace (M_rd v)), .int (M_lastFault (M_lf v)), .int (M_lastPlace (M_lf v)), .ref (q 15), .ref (q 16), .ref (q 17), .ref (q 18), .int (M_hasImage (M_im v)), .int (M_spanNow (M_rn v)), .ref (q 19), .int (M_placeThen (M_rn v)), .int (M_alonePlace (M_al v)), .int (M_aloneSteps (M_al v)), .int (M_aloneOut (M_al v)), .ref (q 20), .ref (q 21), .ref (q 22), .ref (q 23), .int (M_shotAlarm (M_ex v)), .int (M_drawn (M_ex v))]), ((q 1), aI K 700 (M_tape (M_tp v))), ((q 2), aI K 20 (M_number (M_cd v))), ((q 3), aZ K 5 (M_isTold (M_rd v))), ((q 4), aI K 80 (M_codeSort (M_cd v))), ((q 5), aI K 80 (M_codeA (M_cd v))), ((q 6), aI K 80 (M_codeB (M_cd v))), ((q 7), aI K 80 (M_codeC (M_cd v))), ((q 8), aI K 80 (M_codeName (M_cd v))), ((q 9), aI K 80 (M_codePlace (M_cd v))), ((q 10), aI K 80 (M_codeTo (M_cd v))), ((q 11), aI K 280 (M_labelName (M_cd v))), ((q 12), aI K 280 (M_labelAt (M_cd v))), ((q 13), aI K 64 (M_data (M_cd v))), ((q 14), aZ K 32 (M_hasData (M_rd v))), ((q 15), aI K 314 (M_s (M_rn v))), ((q 16), aI K 314 (M_aside (M_ex v))), ((q 17), aI K 314 (M_further (M_ex v))), ((q 18), aI K 314 (M_image (M_im v))), ((q 19), aI K 3 (M_sizeNow (M_rn v))), ((q 20), aI K 8 (M_aloneRegister (M_al v))), ((q 21), aI K 4 (M_aloneReal (M_al v))), ((q 22), aI K 32 (M_aloneMemory (M_al v))), ((q 23), aI K 999 (M_aloneOutput (M_al v)))]) rfl ?_
  refine r_aload_n (pc := 0) cx dX10_nameHere_0 0 rfl ?_
  refine r_iconst (pc := 1) cx dX10_nameHere_1 ic_0 ?_
  refine r_putI (pc := 2) (ws' := [((q 0), ob 9 [.int (M_thrown v), .ref (q 1), .int (M_taped (M_tp v)), .ref (q 2), .ref (q 3), .ref (q 4), .ref (q 5), .ref (q 6), .ref (q 7), .ref (q 8), .ref (q 9), .ref (q 10), .ref (q 11), .ref (q 12), .ref (q 13), .ref (q 14), .int (M_lines (M_rd v)), .int (M_size (M_rd v)), .int (M_at (M_rd v)), .int (M_place (M_rd v)), .int (M_sort (M_rd v)), .int (0 : Int32), .int (M_fault (M_rd v)), .int (M_faultPlace (M_rd v)), .int (M_lastFault (M_lf v)), .int (M_lastPlace (M_lf v)), .ref (q 15), .ref (q 16), .ref (q 17), .ref (q 18), .int (M_hasImage (M_im v)), .int (M_spanNow (M_rn v)), .ref (q 19), .int (M_placeThen (M_rn v)), .int (M_alonePlace (M_al v)), .int (M_aloneSteps (M_al v)), .int (M_aloneOut (M_al v)), .ref (q 20), .ref (q 21), .ref (q 22), .ref (q 23), .int (M_shotAlarm (M_ex v)), .int (M_drawn (M_ex v))]), ((q 1), aI K 700 (M_tape (M_tp v))), ((q 2), aI K 20 (M_number (M_cd v))), ((q 3), aZ K 5 (M_isTold (M_rd v))), ((q 4), aI K 80 (M_codeSort (M_cd v))), ((q 5), aI K 80 (M_codeA (M_cd v))), ((q 6), aI K 80 (M_codeB (M_cd v))), ((q 7), aI K 80 (M_codeC (M_cd v))), ((q 8), aI K 80 (M_codeName (M_cd v))), ((q 9), aI K 80 (M_codePlace (M_cd v))), ((q 10), aI K 80 (M_codeTo (M_cd v))), ((q 11), aI K 280 (M_labelName (M_cd v))), ((q 12), aI K 280 (M_labelAt (M_cd v))), ((q 13), aI K 64 (M_data (M_cd v))), ((q 14), aZ K 32 (M_hasData (M_rd v))), ((q 15), aI K 314 (M_s (M_rn v))), ((q 16), aI K 314 (M_aside (M_ex v))), ((q 17), aI K 314 (M_further (M_ex v))), ((q 18), aI K 314 (M_image (M_im v))), ((q 19), aI K 3 (M_sizeNow (M_rn v))), ((q 20), aI K 8 (M_aloneRegister (M_al v))), ((q 21), aI K 4 (M_aloneReal (M_al v))), ((q 22), aI K 32 (M_aloneMemory (M_al v))), ((q 23), aI K 999 (M_aloneOutput (M_al v)))]) cx cf_X10 0 21 rfl (by decide) (Nat.le_of_ble_eq_true rfl) rfl pfd_I wd_1337 dX10_nameHere_2 rfl ?_
  refine r_iconst (pc := 5) cx dX10_nameHere_5 ic_0 ?_
  refine r_istore_n (pc := 6) (loc' := [(1, .int (0 : Int32)), (0, .ref (q 0))]) cx dX10_nameHere_6 rfl (by decide) rfl ?_
  have hL7 : ∀ (k7_63 : Int32 → Option (T_M)), (∀ (x3 : Int32), k7_63 x3 = some o_v → WW p l e rm_M_nameHere s m args below meth c D A 2 0 0 (MQ below (QV D K A (cl_M K q o_v)) args s 0 0 A) ([((q 0), ob 9 [.int (M_thrown v), .ref (q 1), .int (M_taped (M_tp v)), .ref (q 2), .ref (q 3), .ref (q 4), .ref (q 5), .ref (q 6), .ref (q 7), .ref (q 8), .ref (q 9), .ref (q 10), .ref (q 11), .ref (q 12), .ref (q 13), .ref (q 14), .int (M_lines (M_rd v)), .int (M_size (M_rd v)), .int (M_at (M_rd v)), .int (M_place (M_rd v)), .int (M_sort (M_rd v)), .int x3, .int (M_fault (M_rd v)), .int (M_faultPlace (M_rd v)), .int (M_lastFault (M_lf v)), .int (M_lastPlace (M_lf v)), .ref (q 15), .ref (q 16), .ref (q 17), .ref (q 18), .int (M_hasImage (M_im v)), .int (M_spanNow (M_rn v)), .ref (q 19), .int (M_placeThen (M_rn v)), .int (M_alonePlace (M_al v)), .int (M_aloneSteps (M_al v)), .int (M_aloneOut (M_al v)), .ref (q 20), .ref (q 21), .ref (q 22), .ref (q 23), .int (M_shotAlarm (M_ex v)), .int (M_drawn (M_ex v))]), ((q 1), aI K 700 (M_tape (M_tp v))), ((q 2), aI K 20 (M_number (M_cd v))), ((q 3), aZ K 5 (M_isTold (M_rd v))), ((q 4), aI K 80 (M_codeSort (M_cd v))), ((q 5), aI K 80 (M_codeA (M_cd v))), ((q 6), aI K 80 (M_codeB (M_cd v))), ((q 7), aI K 80 (M_codeC (M_cd v))), ((q 8), aI K 80 (M_codeName (M_cd v))), ((q 9), aI K 80 (M_codePlace (M_cd v))), ((q 10), aI K 80 (M_codeTo (M_cd v))), ((q 11), aI K 280 (M_labelName (M_cd v))), ((q 12), aI K 280 (M_labelAt (M_cd v))), ((q 13), aI K 64 (M_data (M_cd v))), ((q 14), aZ K 32 (M_hasData (M_rd v))), ((q 15), aI K 314 (M_s (M_rn v))), ((q 16), aI K 314 (M_aside (M_ex v))), ((q 17), aI K 314 (M_further (M_ex v))), ((q 18), aI K 314 (M_image (M_im v))), ((q 19), aI K 3 (M_sizeNow (M_rn v))), ((q 20), aI K 8 (M_aloneRegister (M_al v))), ((q 21), aI K 4 (M_aloneReal (M_al v))), ((q 22), aI K 32 (M_aloneMemory (M_al v))), ((q 23), aI K 999 (M_aloneOutput (M_al v)))]) ([]) ([]) 63) → ∀ (n7 : Nat) (x1 : Int32) (x2 : Int32), f_M_nameHere_L7 v k7_63 n7 x1 x2 = some o_v → WW p l e rm_M_nameHere s m args below meth c D A 2 0 0 (MQ below (QV D K A (cl_M K q o_v)) args s 0 0 A) ([((q 0), ob 9 [.int (M_thrown v), .ref (q 1), .int (M_taped (M_tp v)), .ref (q 2), .ref (q 3), .ref (q 4), .ref (q 5), .ref (q 6), .ref (q 7), .ref (q 8), .ref (q 9), .ref (q 10), .ref (q 11), .ref (q 12), .ref (q 13), .ref (q 14), .int (M_lines (M_rd v)), .int (M_size (M_rd v)), .int (M_at (M_rd v)), .int (M_place (M_rd v)), .int (M_sort (M_rd v)), .int x2, .int (M_fault (M_rd v)), .int (M_faultPlace (M_rd v)), .int (M_lastFault (M_lf v)), .int (M_lastPlace (M_lf v)), .ref (q 15), .ref (q 16), .ref (q 17), .ref (q 18), .int (M_hasImage (M_im v)), .int (M_spanNow (M_rn v)), .ref (q 19), .int (M_placeThen (M_rn v)), .int (M_alonePlace (M_al v)), .int (M_aloneSteps (M_al v)), .int (M_aloneOut (M_al v)), .ref (q 20), .ref (q 21), .ref (q 22), .ref (q 23), .int (M_shotAlarm (M_ex v)), .int (M_drawn (M_ex v))]), ((q 1), aI K 700 (M_tape (M_tp v))), ((q 2), aI K 20 (M_number (M_cd v))), ((q 3), aZ K 5 (M_isTold (M_rd v))), ((q 4), aI K 80 (M_codeSort (M_cd v))), ((q 5), aI K 80 (M_codeA (M_cd v))), ((q 6), aI K 80 (M_codeB (M_cd v))), ((q 7), aI K 80 (M_codeC (M_cd v))), ((q 8), aI K 80 (M_codeName (M_cd v))), ((q 9), aI K 80 (M_codePlace (M_cd v))), ((q 10), aI K 80 (M_codeTo (M_cd v))), ((q 11), aI K 280 (M_labelName (M_cd v))), ((q 12), aI K 280 (M_labelAt (M_cd v))), ((q 13), aI K 64 (M_data (M_cd v))), ((q 14), aZ K 32 (M_hasData (M_rd v))), ((q 15), aI K 314 (M_s (M_rn v))), ((q 16), aI K 314 (M_aside (M_ex v))), ((q 17), aI K 314 (M_further (M_ex v))), ((q 18), aI K 314 (M_image (M_im v))), ((q 19), aI K 3 (M_sizeNow (M_rn v))), ((q 20), aI K 8 (M_aloneRegister (M_al v))), ((q 21), aI K 4 (M_aloneReal (M_al v))), ((q 22), aI K 32 (M_aloneMemory (M_al v))), ((q 23), aI K 999 (M_aloneOutput (M_al v)))]) ([(0, .ref (q 0)), (1, .int x1)]) ([]) 7 := by
    intro k7_63 hk7_63 n7
    induction n7 with
    | zero => intro x1 x2 hf; exact (nomatch (show (none : Option (T_M)) = some _ from hf))
    | succ n7 ih7 =>
      intro x1 x2 hf
      rw [f_M_nameHere_L7] at hf
      refine r_iload_n (pc := 7) cx dX10_nameHere_7 1 rfl ?_
      refine r_bipush (pc := 8) cx dX10_nameHere_8 bp_6 ?_
      refine r_icmp_ge (pc := 10) (tgt := 63) cx dX10_nameHere_10 (by decide) (fun h4 => ?_) (fun h4 => ?_)
      · have hf := ifp h4 hf
        refine r_loc (loc' := []) [] rfl ?_
        exact hk7_63 _ hf
      · have hf := ifn h4 hf
        refine r_aload_n (pc := 13) cx dX10_nameHere_13 0 rfl ?_
        refine r_aload_n (pc := 14) cx dX10_nameHere_14 0 rfl ?_
        refine r_get (pc := 15) cx cf_X10 0 21 rfl (by decide) rfl wd_1337 dX10_nameHere_15 ?_
        refine r_iconst (pc := 18) cx dX10_nameHere_18 ic_5 ?_
        refine r_ishl (pc := 19) cx dX10_nameHere_19 ?_
        refine r_aload_n (pc := 20) cx dX10_nameHere_20 0 rfl ?_
        refine r_get (pc := 21) cx cf_X10 0 19 rfl (by decide) rfl wd_1335 dX10_nameHere_21 ?_
        refine r_iload_n (pc := 24) cx dX10_nameHere_24 1 rfl ?_
        refine r_iadd (pc := 25) cx dX10_nameHere_25 ?_
        refine r_aload_n (pc := 26) cx dX10_nameHere_26 0 rfl ?_
        refine r_get (pc := 27) cx cf_X10 0 18 rfl (by decide) rfl wd_1334 dX10_nameHere_27 ?_
        refine r_icmp_ge (pc := 30) (tgt := 52) cx dX10_nameHere_30 (by decide) (fun h5 => ?_) (fun h5 => ?_)
        · have hf := ifp h5 hf
          refine r_iconst (pc := 52) cx dX10_nameHere_52 ic_0 ?_
          refine r_ior (pc := 53) cx dX10_nameHere_53 ?_
          obtain ⟨x6, ex6, hf⟩ := nm_of hf
          refine r_nm ex6 ?_
          refine r_putI (pc := 54) (ws' := [((q 0), ob 9 [.int (M_thrown v), .ref (q 1), .int (M_taped (M_tp v)), .ref (q 2), .ref (q 3), .ref (q 4), .ref (q 5), .ref (q 6), .ref (q 7), .ref (q 8), .ref (q 9), .ref (q 10), .ref (q 11), .ref (q 12), .ref (q 13), .ref (q 14), .int (M_lines (M_rd v)), .int (M_size (M_rd v)), .int (M_at (M_rd v)), .int (M_place (M_rd v)), .int (M_sort (M_rd v)), .int x6, .int (M_fault (M_rd v)), .int (M_faultPlace (M_rd v)), .int (M_lastFault (M_lf v)), .int (M_lastPlace (M_lf v)), .ref (q 15), .ref (q 16), .ref (q 17), .ref (q 18), .int (M_hasImage (M_im v)), .int (M_spanNow (M_rn v)), .ref (q 19), .int (M_placeThen (M_rn v)), .int (M_alonePlace (M_al v)), .int (M_aloneSteps (M_al v)), .int (M_aloneOut (M_al v)), .ref (q 20), .ref (q 21), .ref (q 22), .ref (q 23), .int (M_shotAlarm (M_ex v)), .int (M_drawn (M_ex v))]), ((q 1), aI K 700 (M_tape (M_tp v))), ((q 2), aI K 20 (M_number (M_cd v))), ((q 3), aZ K 5 (M_isTold (M_rd v))), ((q 4), aI K 80 (M_codeSort (M_cd v))), ((q 5), aI K 80 (M_codeA (M_cd v))), ((q 6), aI K 80 (M_codeB (M_cd v))), ((q 7), aI K 80 (M_codeC (M_cd v))), ((q 8), aI K 80 (M_codeName (M_cd v))), ((q 9), aI K 80 (M_codePlace (M_cd v))), ((q 10), aI K 80 (M_codeTo (M_cd v))), ((q 11), aI K 280 (M_labelName (M_cd v))), ((q 12), aI K 280 (M_labelAt (M_cd v))), ((q 13), aI K 64 (M_data (M_cd v))), ((q 14), aZ K 32 (M_hasData (M_rd v))), ((q 15), aI K 314 (M_s (M_rn v))), ((q 16), aI K 314 (M_aside (M_ex v))), ((q 17), aI K 314 (M_further (M_ex v))), ((q 18), aI K 314 (M_image (M_im v))), ((q 19), aI K 3 (M_sizeNow (M_rn v))), ((q 20), aI K 8 (M_aloneRegister (M_al v))), ((q 21), aI K 4 (M_aloneReal (M_al v))), ((q 22), aI K 32 (M_aloneMemory (M_al v))), ((q 23), aI K 999 (M_aloneOutput (M_al v)))]) cx cf_X10 0 21 rfl (by decide) (Nat.le_of_ble_eq_true rfl) rfl pfd_I wd_1337 dX10_nameHere_54 rfl ?_
          obtain ⟨x7, ex7, hf⟩ := nm_of hf
          refine r_iinc (pc := 57) (loc' := [(1, .int x7), (0, .ref (q 0))]) (v := x7) cx dX10_nameHere_57 1 rfl ((congrArg (fun z => x1 + z) ic_1).trans ex7.symm) (by decide) rfl ?_
          refine r_goto (pc := 60) (tgt := 7) cx dX10_nameHere_60 (by decide) ?_
          refine r_loc (loc' := [(0, .ref (q 0)), (1, .int x7)]) [1, 0] rfl ?_
          exact ih7 _ _ hf
        · have hf := ifn h5 hf
          refine r_aload_n (pc := 33) cx dX10_nameHere_33 0 rfl ?_
          refine r_get (pc := 34) cx cf_X10 0 1 rfl (by decide) rfl wd_1317 dX10_nameHere_34 ?_
          refine r_aload_n (pc := 37) cx dX10_nameHere_37 0 rfl ?_
          refine r_get (pc := 38) cx cf_X10 0 19 rfl (by decide) rfl wd_1335 dX10_nameHere_38 ?_
          refine r_iload_n (pc := 41) cx dX10_nameHere_41 1 rfl ?_
          refine r_iadd (pc := 42) cx dX10_nameHere_42 ?_
          obtain ⟨h8, hf⟩ := chk_of hf
          refine r_iald (pc := 43) cx 1 rfl h8 dX10_nameHere_43 ?_
          refine r_bipush (pc := 44) cx dX10_nameHere_44 bp_97 ?_
          refine r_isub (pc := 46) cx dX10_nameHere_46 ?_
          refine r_iconst (pc := 47) cx dX10_nameHere_47 ic_1 ?_
          refine r_iadd (pc := 48) cx dX10_nameHere_48 ?_
          refine r_goto (pc := 49) (tgt := 53) cx dX10_nameHere_49 (by decide) ?_
          refine r_ior (pc := 53) cx dX10_nameHere_53 ?_
          obtain ⟨x9, ex9, hf⟩ := nm_of hf
          refine r_nm ex9 ?_
          refine r_putI (pc := 54) (ws' := [((q 0), ob 9 [.int (M_thrown v), .ref (q 1), .int (M_taped (M_tp v)), .ref (q 2), .ref (q 3), .ref (q 4), .ref (q 5), .ref (q 6), .ref (q 7), .ref (q 8), .ref (q 9), .ref (q 10), .ref (q 11), .ref (q 12), .ref (q 13), .ref (q 14), .int (M_lines (M_rd v)), .int (M_size (M_rd v)), .int (M_at (M_rd v)), .int (M_place (M_rd v)), .int (M_sort (M_rd v)), .int x9, .int (M_fault (M_rd v)), .int (M_faultPlace (M_rd v)), .int (M_lastFault (M_lf v)), .int (M_lastPlace (M_lf v)), .ref (q 15), .ref (q 16), .ref (q 17), .ref (q 18), .int (M_hasImage (M_im v)), .int (M_spanNow (M_rn v)), .ref (q 19), .int (M_placeThen (M_rn v)), .int (M_alonePlace (M_al v)), .int (M_aloneSteps (M_al v)), .int (M_aloneOut (M_al v)), .ref (q 20), .ref (q 21), .ref (q 22), .ref (q 23), .int (M_shotAlarm (M_ex v)), .int (M_drawn (M_ex v))]), ((q 1), aI K 700 (M_tape (M_tp v))), ((q 2), aI K 20 (M_number (M_cd v))), ((q 3), aZ K 5 (M_isTold (M_rd v))), ((q 4), aI K 80 (M_codeSort (M_cd v))), ((q 5), aI K 80 (M_codeA (M_cd v))), ((q 6), aI K 80 (M_codeB (M_cd v))), ((q 7), aI K 80 (M_codeC (M_cd v))), ((q 8), aI K 80 (M_codeName (M_cd v))), ((q 9), aI K 80 (M_codePlace (M_cd v))), ((q 10), aI K 80 (M_codeTo (M_cd v))), ((q 11), aI K 280 (M_labelName (M_cd v))), ((q 12), aI K 280 (M_labelAt (M_cd v))), ((q 13), aI K 64 (M_data (M_cd v))), ((q 14), aZ K 32 (M_hasData (M_rd v))), ((q 15), aI K 314 (M_s (M_rn v))), ((q 16), aI K 314 (M_aside (M_ex v))), ((q 17), aI K 314 (M_further (M_ex v))), ((q 18), aI K 314 (M_image (M_im v))), ((q 19), aI K 3 (M_sizeNow (M_rn v))), ((q 20), aI K 8 (M_aloneRegister (M_al v))), ((q 21), aI K 4 (M_aloneReal (M_al v))), ((q 22), aI K 32 (M_aloneMemory (M_al v))), ((q 23), aI K 999 (M_aloneOutput (M_al v)))]) cx cf_X10 0 21 rfl (by decide) (Nat.le_of_ble_eq_true rfl) rfl pfd_I wd_1337 dX10_nameHere_54 rfl ?_
          obtain ⟨x10, ex10, hf⟩ := nm_of hf
          refine r_iinc (pc := 57) (loc' := [(1, .int x10), (0, .ref (q 0))]) (v := x10) cx dX10_nameHere_57 1 rfl ((congrArg (fun z => x1 + z) ic_1).trans ex10.symm) (by decide) rfl ?_
          refine r_goto (pc := 60) (tgt := 7) cx dX10_nameHere_60 (by decide) ?_
          refine r_loc (loc' := [(0, .ref (q 0)), (1, .int x10)]) [1, 0] rfl ?_
          exact ih7 _ _ hf
  refine r_loc (loc' := [(0, .ref (q 0)), (1, .int (0 : Int32))]) [1, 0] rfl ?_
  refine hL7 _ (fun x3 hf => ?_) _ _ _ hf
  cases hf
  exact r_vret (pc := 63) cx rfl dX10_nameHere_63
theorem yv_X10_nameHere : YV yX10_nameHere cX10_nameHere 2 (none) 0 := ⟨⟨by decide +kernel, by decide +kernel, by decide +kernel⟩, wd_1484, wd_102, wd_1483, wd_35⟩
def f_M_wrongAt (v : T_M) (a1 : Int32) (a2 : Int32) : Option (T_M) :=
  (if (M_fault (M_rd v)) = (0 : Int32) then (some ((M_tp v), ((M_lines (M_rd v)), (M_size (M_rd v)), (M_at (M_rd v)), (M_place (M_rd v)), (M_sort (M_rd v)), (M_value (M_rd v)), a1, a2, (M_isTold (M_rd v)), (M_hasData (M_rd v))), (M_lf v), (M_cd v), (M_rn v), (M_ex v), (M_im v), (M_al v), (M_thrown v))) else (some v))
abbrev rm_M_wrongAt : Room := { frames := 0, cells := 0, slots := 0, locals := 0 }
set_option maxRecDepth 100000 in
set_option maxHeartbeats 4000000 in
theorem m_M_wrongAt (l : Launch) (D : va_G) (K : Nat → ClassId) (q : Nat → Nat) (v : T_M) (a1 : Int32) (a2 : Int32) {o_v : T_M} (hf : f_M_wrongAt v a1 a2 = some o_v) : MV l yX10_wrongAt cX10_wrongAt 3 (none) rm_M_wrongAt D K [.ref (q 0), .int a1, .int a2] (cl_M K q v) (cl_M K q o_v) := by
  refine MV_of (loc0 := [(0, .ref (q 0)), (1, .int a1), (2, .int a2)]) (by decide +kernel) rfl (Nat.le_of_ble_eq_true rfl) ?_
  intro p e s m args below meth c A cx
  unfold f_M_wrongAt at hf
  refine r_ws (ws' := [((q 0), ob 9 [.int (M_thrown v), .ref (q 1), .int (M_taped (M_tp v)), .ref (q 2), .ref (q 3), .ref (q 4), .ref (q 5), .ref (q 6), .ref (q 7), .ref (q 8), .ref (q 9), .ref (q 10), .ref (q 11), .ref (q 12), .ref (q 13), .ref (q 14), .int (M_lines (M_rd v)), .int (M_size (M_rd v)), .int (M_at (M_rd v)), .int (M_place (M_rd v)), .int (M_sort (M_rd v)), .int (M_value (M_rd v)), .int (M_fault (M_rd v)), .int (M_faultPlace (M_rd v)), .int (M_lastFault (M_lf v)), .int (M_lastPlace (M_lf v)), .ref (q 15), .ref (q 16), .ref (q 17), .ref (q 18), .int (M_hasImage (M_im v)), .int (M_spanNow (M_rn v)), .ref (q 19), .int (M_placeThen (M_rn v)), .int (M_alonePlace (M_al v)), .int (M_aloneSteps (M_al v)), .int (M_aloneOut (M_al v)), .ref (q 20), .ref (q 21), .ref (q 22), .ref (q 23), .int (M_shotAlarm (M_ex v)), .int (M_drawn (M_ex v))]), ((q 1), aI K 700 (M_tape (M_tp v))), ((q 2), aI K 20 (M_number (M_cd v))), ((q 3), aZ K 5 (M_isTold (M_rd v))), ((q 4), aI K 80 (M_codeSort (M_cd v))), ((q 5), aI K 80 (M_codeA (M_cd v))), ((q 6), aI K 80 (M_codeB (M_cd v))), ((q 7), aI K 80 (M_codeC (M_cd v))), ((q 8), aI K 80 (M_codeName (M_cd v))), ((q 9), aI K 80 (M_codePlace (M_cd v))), ((q 10), aI K 80 (M_codeTo (M_cd v))), ((q 11), aI K 280 (M_labelName (M_cd v))), ((q 12), aI K 280 (M_labelAt (M_cd v))), ((q 13), aI K 64 (M_data (M_cd v))), ((q 14), aZ K 32 (M_hasData (M_rd v))), ((q 15), aI K 314 (M_s (M_rn v))), ((q 16), aI K 314 (M_aside (M_ex v))), ((q 17), aI K 314 (M_further (M_ex v))), ((q 18), aI K 314 (M_image (M_im v))), ((q 19), aI K 3 (M_sizeNow (M_rn v))), ((q 20), aI K 8 (M_aloneRegister (M_al v))), ((q 21), aI K 4 (M_aloneReal (M_al v))), ((q 22), aI K 32 (M_aloneMemory (M_al v))), ((q 23), aI K 999 (M_aloneOutput (M_al v)))]) rfl ?_
  refine r_aload_n (pc := 0) cx dX10_wrongAt_0 0 rfl ?_
  refine r_get (pc := 1) cx cf_X10 0 22 rfl (by decide) rfl wd_1338 dX10_wrongAt_1 ?_
  refine r_if_eq (pc := 4) (tgt := 8) cx dX10_wrongAt_4 (by decide) (fun h1 => ?_) (fun h1 => ?_)
  · have hf := ifp h1 hf
    refine r_aload_n (pc := 8) cx dX10_wrongAt_8 0 rfl ?_
    refine r_iload_n (pc := 9) cx dX10_wrongAt_9 1 rfl ?_
    refine r_putI (pc := 10) (ws' := [((q 0), ob 9 [.int (M_thrown v), .ref (q 1), .int (M_taped (M_tp v)), .ref (q 2), .ref (q 3), .ref (q 4), .ref (q 5), .ref (q 6), .ref (q 7), .ref (q 8), .ref (q 9), .ref (q 10), .ref (q 11), .ref (q 12), .ref (q 13), .ref (q 14), .int (M_lines (M_rd v)), .int (M_size (M_rd v)), .int (M_at (M_rd v)), .int (M_place (M_rd v)), .int (M_sort (M_rd v)), .int (M_value (M_rd v)), .int a1, .int (M_faultPlace (M_rd v)), .int (M_lastFault (M_lf v)), .int (M_lastPlace (M_lf v)), .ref (q 15), .ref (q 16), .ref (q 17), .ref (q 18), .int (M_hasImage (M_im v)), .int (M_spanNow (M_rn v)), .ref (q 19), .int (M_placeThen (M_rn v)), .int (M_alonePlace (M_al v)), .int (M_aloneSteps (M_al v)), .int (M_aloneOut (M_al v)), .ref (q 20), .ref (q 21), .ref (q 22), .ref (q 23), .int (M_shotAlarm (M_ex v)), .int (M_drawn (M_ex v))]), ((q 1), aI K 700 (M_tape (M_tp v))), ((q 2), aI K 20 (M_number (M_cd v))), ((q 3), aZ K 5 (M_isTold (M_rd v))), ((q 4), aI K 80 (M_codeSort (M_cd v))), ((q 5), aI K 80 (M_codeA (M_cd v))), ((q 6), aI K 80 (M_codeB (M_cd v))), ((q 7), aI K 80 (M_codeC (M_cd v))), ((q 8), aI K 80 (M_codeName (M_cd v))), ((q 9), aI K 80 (M_codePlace (M_cd v))), ((q 10), aI K 80 (M_codeTo (M_cd v))), ((q 11), aI K 280 (M_labelName (M_cd v))), ((q 12), aI K 280 (M_labelAt (M_cd v))), ((q 13), aI K 64 (M_data (M_cd v))), ((q 14), aZ K 32 (M_hasData (M_rd v))), ((q 15), aI K 314 (M_s (M_rn v))), ((q 16), aI K 314 (M_aside (M_ex v))), ((q 17), aI K 314 (M_further (M_ex v))), ((q 18), aI K 314 (M_image (M_im v))), ((q 19), aI K 3 (M_sizeNow (M_rn v))), ((q 20), aI K 8 (M_aloneRegister (M_al v))), ((q 21), aI K 4 (M_aloneReal (M_al v))), ((q 22), aI K 32 (M_aloneMemory (M_al v))), ((q 23), aI K 999 (M_aloneOutput (M_al v)))]) cx cf_X10 0 22 rfl (by decide) (Nat.le_of_ble_eq_true rfl) rfl pfd_I wd_1338 dX10_wrongAt_10 rfl ?_
    refine r_aload_n (pc := 13) cx dX10_wrongAt_13 0 rfl ?_
    refine r_iload_n (pc := 14) cx dX10_wrongAt_14 2 rfl ?_
    refine r_putI (pc := 15) (ws' := [((q 0), ob 9 [.int (M_thrown v), .ref (q 1), .int (M_taped (M_tp v)), .ref (q 2), .ref (q 3), .ref (q 4), .ref (q 5), .ref (q 6), .ref (q 7), .ref (q 8), .ref (q 9), .ref (q 10), .ref (q 11), .ref (q 12), .ref (q 13), .ref (q 14), .int (M_lines (M_rd v)), .int (M_size (M_rd v)), .int (M_at (M_rd v)), .int (M_place (M_rd v)), .int (M_sort (M_rd v)), .int (M_value (M_rd v)), .int a1, .int a2, .int (M_lastFault (M_lf v)), .int (M_lastPlace (M_lf v)), .ref (q 15), .ref (q 16), .ref (q 17), .ref (q 18), .int (M_hasImage (M_im v)), .int (M_spanNow (M_rn v)), .ref (q 19), .int (M_placeThen (M_rn v)), .int (M_alonePlace (M_al v)), .int (M_aloneSteps (M_al v)), .int (M_aloneOut (M_al v)), .ref (q 20), .ref (q 21), .ref (q 22), .ref (q 23), .int (M_shotAlarm (M_ex v)), .int (M_drawn (M_ex v))]), ((q 1), aI K 700 (M_tape (M_tp v))), ((q 2), aI K 20 (M_number (M_cd v))), ((q 3), aZ K 5 (M_isTold (M_rd v))), ((q 4), aI K 80 (M_codeSort (M_cd v))), ((q 5), aI K 80 (M_codeA (M_cd v))), ((q 6), aI K 80 (M_codeB (M_cd v))), ((q 7), aI K 80 (M_codeC (M_cd v))), ((q 8), aI K 80 (M_codeName (M_cd v))), ((q 9), aI K 80 (M_codePlace (M_cd v))), ((q 10), aI K 80 (M_codeTo (M_cd v))), ((q 11), aI K 280 (M_labelName (M_cd v))), ((q 12), aI K 280 (M_labelAt (M_cd v))), ((q 13), aI K 64 (M_data (M_cd v))), ((q 14), aZ K 32 (M_hasData (M_rd v))), ((q 15), aI K 314 (M_s (M_rn v))), ((q 16), aI K 314 (M_aside (M_ex v))), ((q 17), aI K 314 (M_further (M_ex v))), ((q 18), aI K 314 (M_image (M_im v))), ((q 19), aI K 3 (M_sizeNow (M_rn v))), ((q 20), aI K 8 (M_aloneRegister (M_al v))), ((q 21), aI K 4 (M_aloneReal (M_al v))), ((q 22), aI K 32 (M_aloneMemory (M_al v))), ((q 23), aI K 999 (M_aloneOutput (M_al v)))]) cx cf_X10 0 23 rfl (by decide) (Nat.le_of_ble_eq_true rfl) rfl pfd_I wd_1339 dX10_wrongAt_15 rfl ?_
    cases hf
    exact r_vret (pc := 18) cx rfl dX10_wrongAt_18
  · have hf := ifn h1 hf
    cases hf
    exact r_vret (pc := 7) cx rfl dX10_wrongAt_7
theorem yv_X10_wrongAt : YV yX10_wrongAt cX10_wrongAt 3 (none) 2 := ⟨⟨by decide +kernel, by decide +kernel, by decide +kernel⟩, wd_1500, wd_102, wd_1499, wd_38⟩
def f_M_wrong (v : T_M) (a1 : Int32) : Option (T_M) :=
  (bd (f_M_wrongAt v a1 (M_place (M_rd v))) fun (v1 : T_M) => (some v1))
abbrev rm_M_wrong : Room := { frames := 1, cells := 0, slots := 0, locals := 22 }
set_option maxRecDepth 100000 in
set_option maxHeartbeats 4000000 in
theorem m_M_wrong (l : Launch) (D : va_G) (K : Nat → ClassId) (q : Nat → Nat) (v : T_M) (a1 : Int32) {o_v : T_M} (hf : f_M_wrong v a1 = some o_v) : MV l yX10_wrong cX10_wrong 2 (none) rm_M_wrong D K [.ref (q 0), .int a1] (cl_M K q v) (cl_M K q o_v) := by
  refine MV_of (loc0 := [(0, .ref (q 0)), (1, .int a1)]) (by decide +kernel) rfl (Nat.le_of_ble_eq_true rfl) ?_
  intro p e s m args below meth c A cx
  unfold f_M_wrong at hf
  refine r_ws (ws' := [((q 0), ob 9 [.int (M_thrown v), .ref (q 1), .int (M_taped (M_tp v)), .ref (q 2), .ref (q 3), .ref (q 4), .ref (q 5), .ref (q 6), .ref (q 7), .ref (q 8), .ref (q 9), .ref (q 10), .ref (q 11), .ref (q 12), .ref (q 13), .ref (q 14), .int (M_lines (M_rd v)), .int (M_size (M_rd v)), .int (M_at (M_rd v)), .int (M_place (M_rd v)), .int (M_sort (M_rd v)), .int (M_value (M_rd v)), .int (M_fault (M_rd v)), .int (M_faultPlace (M_rd v)), .int (M_lastFault (M_lf v)), .int (M_lastPlace (M_lf v)), .ref (q 15), .ref (q 16), .ref (q 17), .ref (q 18), .int (M_hasImage (M_im v)), .int (M_spanNow (M_rn v)), .ref (q 19), .int (M_placeThen (M_rn v)), .int (M_alonePlace (M_al v)), .int (M_aloneSteps (M_al v)), .int (M_aloneOut (M_al v)), .ref (q 20), .ref (q 21), .ref (q 22), .ref (q 23), .int (M_shotAlarm (M_ex v)), .int (M_drawn (M_ex v))]), ((q 1), aI K 700 (M_tape (M_tp v))), ((q 2), aI K 20 (M_number (M_cd v))), ((q 3), aZ K 5 (M_isTold (M_rd v))), ((q 4), aI K 80 (M_codeSort (M_cd v))), ((q 5), aI K 80 (M_codeA (M_cd v))), ((q 6), aI K 80 (M_codeB (M_cd v))), ((q 7), aI K 80 (M_codeC (M_cd v))), ((q 8), aI K 80 (M_codeName (M_cd v))), ((q 9), aI K 80 (M_codePlace (M_cd v))), ((q 10), aI K 80 (M_codeTo (M_cd v))), ((q 11), aI K 280 (M_labelName (M_cd v))), ((q 12), aI K 280 (M_labelAt (M_cd v))), ((q 13), aI K 64 (M_data (M_cd v))), ((q 14), aZ K 32 (M_hasData (M_rd v))), ((q 15), aI K 314 (M_s (M_rn v))), ((q 16), aI K 314 (M_aside (M_ex v))), ((q 17), aI K 314 (M_further (M_ex v))), ((q 18), aI K 314 (M_image (M_im v))), ((q 19), aI K 3 (M_sizeNow (M_rn v))), ((q 20), aI K 8 (M_aloneRegister (M_al v))), ((q 21), aI K 4 (M_aloneReal (M_al v))), ((q 22), aI K 32 (M_aloneMemory (M_al v))), ((q 23), aI K 999 (M_aloneOutput (M_al v)))]) rfl ?_
  refine r_aload_n (pc := 0) cx dX10_wrong_0 0 rfl ?_
  refine r_iload_n (pc := 1) cx dX10_wrong_1 1 rfl ?_
  refine r_aload_n (pc := 2) cx dX10_wrong_2 0 rfl ?_
  refine r_get (pc := 3) cx cf_X10 0 19 rfl (by decide) rfl wd_1335 dX10_wrong_3 ?_
  obtain ⟨v1, hc2, hf⟩ := bd_of hf
  refine r_Vv (pc := 6) (ws' := [((q 0), ob 9 [.int (M_thrown v1), .ref (q 1), .int (M_taped (M_tp v1)), .ref (q 2), .ref (q 3), .ref (q 4), .ref (q 5), .ref (q 6), .ref (q 7), .ref (q 8), .ref (q 9), .ref (q 10), .ref (q 11), .ref (q 12), .ref (q 13), .ref (q 14), .int (M_lines (M_rd v1)), .int (M_size (M_rd v1)), .int (M_at (M_rd v1)), .int (M_place (M_rd v1)), .int (M_sort (M_rd v1)), .int (M_value (M_rd v1)), .int (M_fault (M_rd v1)), .int (M_faultPlace (M_rd v1)), .int (M_lastFault (M_lf v1)), .int (M_lastPlace (M_lf v1)), .ref (q 15), .ref (q 16), .ref (q 17), .ref (q 18), .int (M_hasImage (M_im v1)), .int (M_spanNow (M_rn v1)), .ref (q 19), .int (M_placeThen (M_rn v1)), .int (M_alonePlace (M_al v1)), .int (M_aloneSteps (M_al v1)), .int (M_aloneOut (M_al v1)), .ref (q 20), .ref (q 21), .ref (q 22), .ref (q 23), .int (M_shotAlarm (M_ex v1)), .int (M_drawn (M_ex v1))]), ((q 1), aI K 700 (M_tape (M_tp v1))), ((q 2), aI K 20 (M_number (M_cd v1))), ((q 3), aZ K 5 (M_isTold (M_rd v1))), ((q 4), aI K 80 (M_codeSort (M_cd v1))), ((q 5), aI K 80 (M_codeA (M_cd v1))), ((q 6), aI K 80 (M_codeB (M_cd v1))), ((q 7), aI K 80 (M_codeC (M_cd v1))), ((q 8), aI K 80 (M_codeName (M_cd v1))), ((q 9), aI K 80 (M_codePlace (M_cd v1))), ((q 10), aI K 80 (M_codeTo (M_cd v1))), ((q 11), aI K 280 (M_labelName (M_cd v1))), ((q 12), aI K 280 (M_labelAt (M_cd v1))), ((q 13), aI K 64 (M_data (M_cd v1))), ((q 14), aZ K 32 (M_hasData (M_rd v1))), ((q 15), aI K 314 (M_s (M_rn v1))), ((q 16), aI K 314 (M_aside (M_ex v1))), ((q 17), aI K 314 (M_further (M_ex v1))), ((q 18), aI K 314 (M_image (M_im v1))), ((q 19), aI K 3 (M_sizeNow (M_rn v1))), ((q 20), aI K 8 (M_aloneRegister (M_al v1))), ((q 21), aI K 4 (M_aloneReal (M_al v1))), ((q 22), aI K 32 (M_aloneMemory (M_al v1))), ((q 23), aI K 999 (M_aloneOutput (M_al v1)))]) cx [.int a1, .int (M_place (M_rd v))] [] [0, 1, 2, 3, 4, 5, 6, 7, 8, 9, 10, 11, 12, 13, 14, 15, 16, 17, 18, 19, 20, 21, 22, 23] (m_M_wrongAt l D K q v a1 (M_place (M_rd v)) hc2) yv_X10_wrongAt wd_1497 ⟨rfl, rfl⟩ (by decide) rfl rfl rfl (by decide) 0 rfl rfl rfl (Nat.le_of_ble_eq_true rfl) dX10_wrong_6 ?_
  cases hf
  exact r_vret (pc := 9) cx rfl dX10_wrong_9
theorem yv_X10_wrong : YV yX10_wrong cX10_wrong 2 (none) 1 := ⟨⟨by decide +kernel, by decide +kernel, by decide +kernel⟩, wd_1496, wd_102, wd_1495, wd_37⟩
def f_M_numberAtHand (v : T_M) (a1 : Int32) (a2 : Int32) : Option (Int32 × T_M) :=
  (if (M_fault (M_rd v)) = (0 : Int32) then (nm (fun (v2 : T_M) => ((if (M_fault (M_rd v2)) = (0 : Int32) then (some ((M_value (M_rd v2)), v2)) else (some (a1, v2))) : Option (Int32 × T_M))) fun J3 => (if (M_sort (M_rd v)) = (2 : Int32) then (if (M_value (M_rd v)) < a1 then (bd (f_M_wrong v (2 : Int32)) fun (v7 : T_M) => (J3 v7)) else (if (M_value (M_rd v)) ≤ a2 then (J3 v) else (bd (f_M_wrong v (2 : Int32)) fun (v10 : T_M) => (J3 v10)))) else (bd (f_M_wrong v (1 : Int32)) fun (v12 : T_M) => (J3 v12)))) else (some (a1, v)))
abbrev rm_M_numberAtHand : Room := { frames := 2, cells := 0, slots := 0, locals := 43 }
set_option maxRecDepth 100000 in
set_option maxHeartbeats 4000000 in
theorem m_M_numberAtHand (l : Launch) (D : va_G) (K : Nat → ClassId) (q : Nat → Nat) (v : T_M) (a1 : Int32) (a2 : Int32) {r_ : Int32} {o_v : T_M} (hf : f_M_numberAtHand v a1 a2 = some (r_, o_v)) : MI l yX10_numberAtHand cX10_numberAtHand 3 (some .int) rm_M_numberAtHand D K [.ref (q 0), .int a1, .int a2] (cl_M K q v) r_ (cl_M K q o_v) := by
  refine MI_of (loc0 := [(0, .ref (q 0)), (1, .int a1), (2, .int a2)]) (by decide +kernel) rfl (Nat.le_of_ble_eq_true rfl) ?_
  intro p e s m args below meth c A cx
  unfold f_M_numberAtHand at hf
  refine r_ws (ws' := [((q 0), ob 9 [.int (M_thrown v), .ref (q 1), .int (M_taped (M_tp v)), .ref (q 2), .ref (q 3), .ref (q 4), .ref (q 5), .ref (q 6), .ref (q 7), .ref (q 8), .ref (q 9), .ref (q 10), .ref (q 11), .ref (q 12), .ref (q 13), .ref (q 14), .int (M_lines (M_rd v)), .int (M_size (M_rd v)), .int (M_at (M_rd v)), .int (M_place (M_rd v)), .int (M_sort (M_rd v)), .int (M_value (M_rd v)), .int (M_fault (M_rd v)), .int (M_faultPlace (M_rd v)), .int (M_lastFault (M_lf v)), .int (M_lastPlace (M_lf v)), .ref (q 15), .ref (q 16), .ref (q 17), .ref (q 18), .int (M_hasImage (M_im v)), .int (M_spanNow (M_rn v)), .ref (q 19), .int (M_placeThen (M_rn v)), .int (M_alonePlace (M_al v)), .int (M_aloneSteps (M_al v)), .int (M_aloneOut (M_al v)), .ref (q 20), .ref (q 21), .ref (q 22), .ref (q 23), .int (M_shotAlarm (M_ex v)), .int (M_drawn (M_ex v))]), ((q 1), aI K 700 (M_tape (M_tp v))), ((q 2), aI K 20 (M_number (M_cd v))), ((q 3), aZ K 5 (M_isTold (M_rd v))), ((q 4), aI K 80 (M_codeSort (M_cd v))), ((q 5), aI K 80 (M_codeA (M_cd v))), ((q 6), aI K 80 (M_codeB (M_cd v))), ((q 7), aI K 80 (M_codeC (M_cd v))), ((q 8), aI K 80 (M_codeName (M_cd v))), ((q 9), aI K 80 (M_codePlace (M_cd v))), ((q 10), aI K 80 (M_codeTo (M_cd v))), ((q 11), aI K 280 (M_labelName (M_cd v))), ((q 12), aI K 280 (M_labelAt (M_cd v))), ((q 13), aI K 64 (M_data (M_cd v))), ((q 14), aZ K 32 (M_hasData (M_rd v))), ((q 15), aI K 314 (M_s (M_rn v))), ((q 16), aI K 314 (M_aside (M_ex v))), ((q 17), aI K 314 (M_further (M_ex v))), ((q 18), aI K 314 (M_image (M_im v))), ((q 19), aI K 3 (M_sizeNow (M_rn v))), ((q 20), aI K 8 (M_aloneRegister (M_al v))), ((q 21), aI K 4 (M_aloneReal (M_al v))), ((q 22), aI K 32 (M_aloneMemory (M_al v))), ((q 23), aI K 999 (M_aloneOutput (M_al v)))]) rfl ?_
  refine r_aload_n (pc := 0) cx dX10_numberAtHand_0 0 rfl ?_
  refine r_get (pc := 1) cx cf_X10 0 22 rfl (by decide) rfl wd_1338 dX10_numberAtHand_1 ?_
  refine r_if_eq (pc := 4) (tgt := 9) cx dX10_numberAtHand_4 (by decide) (fun h1 => ?_) (fun h1 => ?_)
  · have hf := ifp h1 hf
    refine r_aload_n (pc := 9) cx dX10_numberAtHand_9 0 rfl ?_
    refine r_get (pc := 10) cx cf_X10 0 20 rfl (by decide) rfl wd_1336 dX10_numberAtHand_10 ?_
    refine r_iconst (pc := 13) cx dX10_numberAtHand_13 ic_2 ?_
    obtain ⟨J3, eJ3, hf⟩ := nm_of hf
    have hJ3 : ∀ (v2 : T_M), J3 v2 = some (r_, o_v) → WW p l e rm_M_numberAtHand s m args below meth c D A 3 0 0 (MQ below (QI D K A r_ (cl_M K q o_v)) args s 0 0 A) ([((q 0), ob 9 [.int (M_thrown v2), .ref (q 1), .int (M_taped (M_tp v2)), .ref (q 2), .ref (q 3), .ref (q 4), .ref (q 5), .ref (q 6), .ref (q 7), .ref (q 8), .ref (q 9), .ref (q 10), .ref (q 11), .ref (q 12), .ref (q 13), .ref (q 14), .int (M_lines (M_rd v2)), .int (M_size (M_rd v2)), .int (M_at (M_rd v2)), .int (M_place (M_rd v2)), .int (M_sort (M_rd v2)), .int (M_value (M_rd v2)), .int (M_fault (M_rd v2)), .int (M_faultPlace (M_rd v2)), .int (M_lastFault (M_lf v2)), .int (M_lastPlace (M_lf v2)), .ref (q 15), .ref (q 16), .ref (q 17), .ref (q 18), .int (M_hasImage (M_im v2)), .int (M_spanNow (M_rn v2)), .ref (q 19), .int (M_placeThen (M_rn v2)), .int (M_alonePlace (M_al v2)), .int (M_aloneSteps (M_al v2)), .int (M_aloneOut (M_al v2)), .ref (q 20), .ref (q 21), .ref (q 22), .ref (q 23), .int (M_shotAlarm (M_ex v2)), .int (M_drawn (M_ex v2))]), ((q 1), aI K 700 (M_tape (M_tp v2))), ((q 2), aI K 20 (M_number (M_cd v2))), ((q 3), aZ K 5 (M_isTold (M_rd v2))), ((q 4), aI K 80 (M_codeSort (M_cd v2))), ((q 5), aI K 80 (M_codeA (M_cd v2))), ((q 6), aI K 80 (M_codeB (M_cd v2))), ((q 7), aI K 80 (M_codeC (M_cd v2))), ((q 8), aI K 80 (M_codeName (M_cd v2))), ((q 9), aI K 80 (M_codePlace (M_cd v2))), ((q 10), aI K 80 (M_codeTo (M_cd v2))), ((q 11), aI K 280 (M_labelName (M_cd v2))), ((q 12), aI K 280 (M_labelAt (M_cd v2))), ((q 13), aI K 64 (M_data (M_cd v2))), ((q 14), aZ K 32 (M_hasData (M_rd v2))), ((q 15), aI K 314 (M_s (M_rn v2))), ((q 16), aI K 314 (M_aside (M_ex v2))), ((q 17), aI K 314 (M_further (M_ex v2))), ((q 18), aI K 314 (M_image (M_im v2))), ((q 19), aI K 3 (M_sizeNow (M_rn v2))), ((q 20), aI K 8 (M_aloneRegister (M_al v2))), ((q 21), aI K 4 (M_aloneReal (M_al v2))), ((q 22), aI K 32 (M_aloneMemory (M_al v2))), ((q 23), aI K 999 (M_aloneOutput (M_al v2)))]) ([(0, .ref (q 0)), (1, .int a1)]) ([]) 46 := by
      intro v2 hf
      rw [eJ3] at hf
      refine r_aload_n (pc := 46) cx dX10_numberAtHand_46 0 rfl ?_
      refine r_get (pc := 47) cx cf_X10 0 22 rfl (by decide) rfl wd_1338 dX10_numberAtHand_47 ?_
      refine r_if_ne (pc := 50) (tgt := 60) cx dX10_numberAtHand_50 (by decide) (fun h4 => ?_) (fun h4 => ?_)
      · have hf := ifn h4 hf
        refine r_iload_n (pc := 60) cx dX10_numberAtHand_60 1 rfl ?_
        cases hf
        exact r_iret (pc := 61) cx rfl rfl dX10_numberAtHand_61
      · have hf := ifp h4 hf
        refine r_aload_n (pc := 53) cx dX10_numberAtHand_53 0 rfl ?_
        refine r_get (pc := 54) cx cf_X10 0 21 rfl (by decide) rfl wd_1337 dX10_numberAtHand_54 ?_
        refine r_goto (pc := 57) (tgt := 61) cx dX10_numberAtHand_57 (by decide) ?_
        cases hf
        exact r_iret (pc := 61) cx rfl rfl dX10_numberAtHand_61
    refine r_icmp_eq (pc := 14) (tgt := 25) cx dX10_numberAtHand_14 (by decide) (fun h5 => ?_) (fun h5 => ?_)
    · have hf := ifp h5 hf
      refine r_aload_n (pc := 25) cx dX10_numberAtHand_25 0 rfl ?_
      refine r_get (pc := 26) cx cf_X10 0 21 rfl (by decide) rfl wd_1337 dX10_numberAtHand_26 ?_
      refine r_iload_n (pc := 29) cx dX10_numberAtHand_29 1 rfl ?_
      refine r_icmp_lt (pc := 30) (tgt := 41) cx dX10_numberAtHand_30 (by decide) (fun h6 => ?_) (fun h6 => ?_)
      · have hf := ifp h6 hf
        refine r_aload_n (pc := 41) cx dX10_numberAtHand_41 0 rfl ?_
        refine r_iconst (pc := 42) cx dX10_numberAtHand_42 ic_2 ?_
        obtain ⟨v7, hc8, hf⟩ := bd_of hf
        refine r_Vv (pc := 43) (ws' := [((q 0), ob 9 [.int (M_thrown v7), .ref (q 1), .int (M_taped (M_tp v7)), .ref (q 2), .ref (q 3), .ref (q 4), .ref (q 5), .ref (q 6), .ref (q 7), .ref (q 8), .ref (q 9), .ref (q 10), .ref (q 11), .ref (q 12), .ref (q 13), .ref (q 14), .int (M_lines (M_rd v7)), .int (M_size (M_rd v7)), .int (M_at (M_rd v7)), .int (M_place (M_rd v7)), .int (M_sort (M_rd v7)), .int (M_value (M_rd v7)), .int (M_fault (M_rd v7)), .int (M_faultPlace (M_rd v7)), .int (M_lastFault (M_lf v7)), .int (M_lastPlace (M_lf v7)), .ref (q 15), .ref (q 16), .ref (q 17), .ref (q 18), .int (M_hasImage (M_im v7)), .int (M_spanNow (M_rn v7)), .ref (q 19), .int (M_placeThen (M_rn v7)), .int (M_alonePlace (M_al v7)), .int (M_aloneSteps (M_al v7)), .int (M_aloneOut (M_al v7)), .ref (q 20), .ref (q 21), .ref (q 22), .ref (q 23), .int (M_shotAlarm (M_ex v7)), .int (M_drawn (M_ex v7))]), ((q 1), aI K 700 (M_tape (M_tp v7))), ((q 2), aI K 20 (M_number (M_cd v7))), ((q 3), aZ K 5 (M_isTold (M_rd v7))), ((q 4), aI K 80 (M_codeSort (M_cd v7))), ((q 5), aI K 80 (M_codeA (M_cd v7))), ((q 6), aI K 80 (M_codeB (M_cd v7))), ((q 7), aI K 80 (M_codeC (M_cd v7))), ((q 8), aI K 80 (M_codeName (M_cd v7))), ((q 9), aI K 80 (M_codePlace (M_cd v7))), ((q 10), aI K 80 (M_codeTo (M_cd v7))), ((q 11), aI K 280 (M_labelName (M_cd v7))), ((q 12), aI K 280 (M_labelAt (M_cd v7))), ((q 13), aI K 64 (M_data (M_cd v7))), ((q 14), aZ K 32 (M_hasData (M_rd v7))), ((q 15), aI K 314 (M_s (M_rn v7))), ((q 16), aI K 314 (M_aside (M_ex v7))), ((q 17), aI K 314 (M_further (M_ex v7))), ((q 18), aI K 314 (M_image (M_im v7))), ((q 19), aI K 3 (M_sizeNow (M_rn v7))), ((q 20), aI K 8 (M_aloneRegister (M_al v7))), ((q 21), aI K 4 (M_aloneReal (M_al v7))), ((q 22), aI K 32 (M_aloneMemory (M_al v7))), ((q 23), aI K 999 (M_aloneOutput (M_al v7)))]) cx [.int (2 : Int32)] [] [0, 1, 2, 3, 4, 5, 6, 7, 8, 9, 10, 11, 12, 13, 14, 15, 16, 17, 18, 19, 20, 21, 22, 23] (m_M_wrong l D K q v (2 : Int32) hc8) yv_X10_wrong wd_1493 ⟨rfl, rfl⟩ (by decide) rfl rfl rfl (by decide) 0 rfl rfl rfl (Nat.le_of_ble_eq_true rfl) dX10_numberAtHand_43 ?_
        refine r_loc (loc' := [(0, .ref (q 0)), (1, .int a1)]) [0, 1] rfl ?_
        exact hJ3 _ hf
      · have hf := ifn h6 hf
        refine r_aload_n (pc := 33) cx dX10_numberAtHand_33 0 rfl ?_
        refine r_get (pc := 34) cx cf_X10 0 21 rfl (by decide) rfl wd_1337 dX10_numberAtHand_34 ?_
        refine r_iload_n (pc := 37) cx dX10_numberAtHand_37 2 rfl ?_
        refine r_icmp_le (pc := 38) (tgt := 46) cx dX10_numberAtHand_38 (by decide) (fun h9 => ?_) (fun h9 => ?_)
        · have hf := ifp h9 hf
          refine r_loc (loc' := [(0, .ref (q 0)), (1, .int a1)]) [0, 1] rfl ?_
          exact hJ3 _ hf
        · have hf := ifn h9 hf
          refine r_aload_n (pc := 41) cx dX10_numberAtHand_41 0 rfl ?_
          refine r_iconst (pc := 42) cx dX10_numberAtHand_42 ic_2 ?_
          obtain ⟨v10, hc11, hf⟩ := bd_of hf
          refine r_Vv (pc := 43) (ws' := [((q 0), ob 9 [.int (M_thrown v10), .ref (q 1), .int (M_taped (M_tp v10)), .ref (q 2), .ref (q 3), .ref (q 4), .ref (q 5), .ref (q 6), .ref (q 7), .ref (q 8), .ref (q 9), .ref (q 10), .ref (q 11), .ref (q 12), .ref (q 13), .ref (q 14), .int (M_lines (M_rd v10)), .int (M_size (M_rd v10)), .int (M_at (M_rd v10)), .int (M_place (M_rd v10)), .int (M_sort (M_rd v10)), .int (M_value (M_rd v10)), .int (M_fault (M_rd v10)), .int (M_faultPlace (M_rd v10)), .int (M_lastFault (M_lf v10)), .int (M_lastPlace (M_lf v10)), .ref (q 15), .ref (q 16), .ref (q 17), .ref (q 18), .int (M_hasImage (M_im v10)), .int (M_spanNow (M_rn v10)), .ref (q 19), .int (M_placeThen (M_rn v10)), .int (M_alonePlace (M_al v10)), .int (M_aloneSteps (M_al v10)), .int (M_aloneOut (M_al v10)), .ref (q 20), .ref (q 21), .ref (q 22), .ref (q 23), .int (M_shotAlarm (M_ex v10)), .int (M_drawn (M_ex v10))]), ((q 1), aI K 700 (M_tape (M_tp v10))), ((q 2), aI K 20 (M_number (M_cd v10))), ((q 3), aZ K 5 (M_isTold (M_rd v10))), ((q 4), aI K 80 (M_codeSort (M_cd v10))), ((q 5), aI K 80 (M_codeA (M_cd v10))), ((q 6), aI K 80 (M_codeB (M_cd v10))), ((q 7), aI K 80 (M_codeC (M_cd v10))), ((q 8), aI K 80 (M_codeName (M_cd v10))), ((q 9), aI K 80 (M_codePlace (M_cd v10))), ((q 10), aI K 80 (M_codeTo (M_cd v10))), ((q 11), aI K 280 (M_labelName (M_cd v10))), ((q 12), aI K 280 (M_labelAt (M_cd v10))), ((q 13), aI K 64 (M_data (M_cd v10))), ((q 14), aZ K 32 (M_hasData (M_rd v10))), ((q 15), aI K 314 (M_s (M_rn v10))), ((q 16), aI K 314 (M_aside (M_ex v10))), ((q 17), aI K 314 (M_further (M_ex v10))), ((q 18), aI K 314 (M_image (M_im v10))), ((q 19), aI K 3 (M_sizeNow (M_rn v10))), ((q 20), aI K 8 (M_aloneRegister (M_al v10))), ((q 21), aI K 4 (M_aloneReal (M_al v10))), ((q 22), aI K 32 (M_aloneMemory (M_al v10))), ((q 23), aI K 999 (M_aloneOutput (M_al v10)))]) cx [.int (2 : Int32)] [] [0, 1, 2, 3, 4, 5, 6, 7, 8, 9, 10, 11, 12, 13, 14, 15, 16, 17, 18, 19, 20, 21, 22, 23] (m_M_wrong l D K q v (2 : Int32) hc11) yv_X10_wrong wd_1493 ⟨rfl, rfl⟩ (by decide) rfl rfl rfl (by decide) 0 rfl rfl rfl (Nat.le_of_ble_eq_true rfl) dX10_numberAtHand_43 ?_
          refine r_loc (loc' := [(0, .ref (q 0)), (1, .int a1)]) [0, 1] rfl ?_
          exact hJ3 _ hf
    · have hf := ifn h5 hf
      refine r_aload_n (pc := 17) cx dX10_numberAtHand_17 0 rfl ?_
      refine r_iconst (pc := 18) cx dX10_numberAtHand_18 ic_1 ?_
      obtain ⟨v12, hc13, hf⟩ := bd_of hf
      refine r_Vv (pc := 19) (ws' := [((q 0), ob 9 [.int (M_thrown v12), .ref (q 1), .int (M_taped (M_tp v12)), .ref (q 2), .ref (q 3), .ref (q 4), .ref (q 5), .ref (q 6), .ref (q 7), .ref (q 8), .ref (q 9), .ref (q 10), .ref (q 11), .ref (q 12), .ref (q 13), .ref (q 14), .int (M_lines (M_rd v12)), .int (M_size (M_rd v12)), .int (M_at (M_rd v12)), .int (M_place (M_rd v12)), .int (M_sort (M_rd v12)), .int (M_value (M_rd v12)), .int (M_fault (M_rd v12)), .int (M_faultPlace (M_rd v12)), .int (M_lastFault (M_lf v12)), .int (M_lastPlace (M_lf v12)), .ref (q 15), .ref (q 16), .ref (q 17), .ref (q 18), .int (M_hasImage (M_im v12)), .int (M_spanNow (M_rn v12)), .ref (q 19), .int (M_placeThen (M_rn v12)), .int (M_alonePlace (M_al v12)), .int (M_aloneSteps (M_al v12)), .int (M_aloneOut (M_al v12)), .ref (q 20), .ref (q 21), .ref (q 22), .ref (q 23), .int (M_shotAlarm (M_ex v12)), .int (M_drawn (M_ex v12))]), ((q 1), aI K 700 (M_tape (M_tp v12))), ((q 2), aI K 20 (M_number (M_cd v12))), ((q 3), aZ K 5 (M_isTold (M_rd v12))), ((q 4), aI K 80 (M_codeSort (M_cd v12))), ((q 5), aI K 80 (M_codeA (M_cd v12))), ((q 6), aI K 80 (M_codeB (M_cd v12))), ((q 7), aI K 80 (M_codeC (M_cd v12))), ((q 8), aI K 80 (M_codeName (M_cd v12))), ((q 9), aI K 80 (M_codePlace (M_cd v12))), ((q 10), aI K 80 (M_codeTo (M_cd v12))), ((q 11), aI K 280 (M_labelName (M_cd v12))), ((q 12), aI K 280 (M_labelAt (M_cd v12))), ((q 13), aI K 64 (M_data (M_cd v12))), ((q 14), aZ K 32 (M_hasData (M_rd v12))), ((q 15), aI K 314 (M_s (M_rn v12))), ((q 16), aI K 314 (M_aside (M_ex v12))), ((q 17), aI K 314 (M_further (M_ex v12))), ((q 18), aI K 314 (M_image (M_im v12))), ((q 19), aI K 3 (M_sizeNow (M_rn v12))), ((q 20), aI K 8 (M_aloneRegister (M_al v12))), ((q 21), aI K 4 (M_aloneReal (M_al v12))), ((q 22), aI K 32 (M_aloneMemory (M_al v12))), ((q 23), aI K 999 (M_aloneOutput (M_al v12)))]) cx [.int (1 : Int32)] [] [0, 1, 2, 3, 4, 5, 6, 7, 8, 9, 10, 11, 12, 13, 14, 15, 16, 17, 18, 19, 20, 21, 22, 23] (m_M_wrong l D K q v (1 : Int32) hc13) yv_X10_wrong wd_1493 ⟨rfl, rfl⟩ (by decide) rfl rfl rfl (by decide) 0 rfl rfl rfl (Nat.le_of_ble_eq_true rfl) dX10_numberAtHand_19 ?_
      refine r_goto (pc := 22) (tgt := 46) cx dX10_numberAtHand_22 (by decide) ?_
      refine r_loc (loc' := [(0, .ref (q 0)), (1, .int a1)]) [0, 1] rfl ?_
      exact hJ3 _ hf
  · have hf := ifn h1 hf
    refine r_iload_n (pc := 7) cx dX10_numberAtHand_7 1 rfl ?_
    cases hf
    exact r_iret (pc := 8) cx rfl rfl dX10_numberAtHand_8
theorem yv_X10_numberAtHand : YV yX10_numberAtHand cX10_numberAtHand 3 (some .int) 2 := ⟨⟨by decide +kernel, by decide +kernel, by decide +kernel⟩, wd_1516, wd_102, wd_1515, wd_42⟩
def f_M_reading (v : T_M) (a1 : Int32) : Option (Int32) :=
  (if ix ((10 : Int32) + a1) 20 then (some ((M_number (M_cd v)) (((10 : Int32) + a1)).toNatClampNeg)) else none)
abbrev rm_M_reading : Room := { frames := 0, cells := 0, slots := 0, locals := 0 }
set_option maxRecDepth 100000 in
set_option maxHeartbeats 4000000 in
theorem m_M_reading (l : Launch) (D : va_G) (K : Nat → ClassId) (q : Nat → Nat) (v : T_M) (a1 : Int32) {r_ : Int32} (hf : f_M_reading v a1 = some r_) : MI l yX10_reading cX10_reading 2 (some .int) rm_M_reading D K [.ref (q 0), .int a1] (cl_M K q v) r_ (cl_M K q v) := by
  refine MI_of (loc0 := [(0, .ref (q 0)), (1, .int a1)]) (by decide +kernel) rfl (Nat.le_of_ble_eq_true rfl) ?_
  intro p e s m args below meth c A cx
  unfold f_M_reading at hf
  refine r_ws (ws' := [((q 0), ob 9 [.int (M_thrown v), .ref (q 1), .int (M_taped (M_tp v)), .ref (q 2), .ref (q 3), .ref (q 4), .ref (q 5), .ref (q 6), .ref (q 7), .ref (q 8), .ref (q 9), .ref (q 10), .ref (q 11), .ref (q 12), .ref (q 13), .ref (q 14), .int (M_lines (M_rd v)), .int (M_size (M_rd v)), .int (M_at (M_rd v)), .int (M_place (M_rd v)), .int (M_sort (M_rd v)), .int (M_value (M_rd v)), .int (M_fault (M_rd v)), .int (M_faultPlace (M_rd v)), .int (M_lastFault (M_lf v)), .int (M_lastPlace (M_lf v)), .ref (q 15), .ref (q 16), .ref (q 17), .ref (q 18), .int (M_hasImage (M_im v)), .int (M_spanNow (M_rn v)), .ref (q 19), .int (M_placeThen (M_rn v)), .int (M_alonePlace (M_al v)), .int (M_aloneSteps (M_al v)), .int (M_aloneOut (M_al v)), .ref (q 20), .ref (q 21), .ref (q 22), .ref (q 23), .int (M_shotAlarm (M_ex v)), .int (M_drawn (M_ex v))]), ((q 1), aI K 700 (M_tape (M_tp v))), ((q 2), aI K 20 (M_number (M_cd v))), ((q 3), aZ K 5 (M_isTold (M_rd v))), ((q 4), aI K 80 (M_codeSort (M_cd v))), ((q 5), aI K 80 (M_codeA (M_cd v))), ((q 6), aI K 80 (M_codeB (M_cd v))), ((q 7), aI K 80 (M_codeC (M_cd v))), ((q 8), aI K 80 (M_codeName (M_cd v))), ((q 9), aI K 80 (M_codePlace (M_cd v))), ((q 10), aI K 80 (M_codeTo (M_cd v))), ((q 11), aI K 280 (M_labelName (M_cd v))), ((q 12), aI K 280 (M_labelAt (M_cd v))), ((q 13), aI K 64 (M_data (M_cd v))), ((q 14), aZ K 32 (M_hasData (M_rd v))), ((q 15), aI K 314 (M_s (M_rn v))), ((q 16), aI K 314 (M_aside (M_ex v))), ((q 17), aI K 314 (M_further (M_ex v))), ((q 18), aI K 314 (M_image (M_im v))), ((q 19), aI K 3 (M_sizeNow (M_rn v))), ((q 20), aI K 8 (M_aloneRegister (M_al v))), ((q 21), aI K 4 (M_aloneReal (M_al v))), ((q 22), aI K 32 (M_aloneMemory (M_al v))), ((q 23), aI K 999 (M_aloneOutput (M_al v)))]) rfl ?_
  refine r_aload_n (pc := 0) cx dX10_reading_0 0 rfl ?_
  refine r_get (pc := 1) cx cf_X10 0 3 rfl (by decide) rfl wd_1319 dX10_reading_1 ?_
  refine r_bipush (pc := 4) cx dX10_reading_4 bp_10 ?_
  refine r_iload_n (pc := 6) cx dX10_reading_6 1 rfl ?_
  refine r_iadd (pc := 7) cx dX10_reading_7 ?_
  obtain ⟨h1, hf⟩ := chk_of hf
  refine r_iald (pc := 8) cx 2 rfl h1 dX10_reading_8 ?_
  cases hf
  exact r_iret (pc := 9) cx rfl rfl dX10_reading_9
theorem yv_X10_reading : YV yX10_reading cX10_reading 2 (some .int) 1 := ⟨⟨by decide +kernel, by decide +kernel, by decide +kernel⟩, wd_1307, wd_102, wd_1306, wd_28⟩
def f_M_reads (v : T_M) (a1 : Int32) (a2 : Int32) : Option (T_M) :=
  (if ix ((10 : Int32) + a1) 20 then (nm (upd (M_number (M_cd v)) (((10 : Int32) + a1)).toNatClampNeg a2) fun (f2 : Nat → Int32) => (some ((M_tp v), (M_rd v), (M_lf v), (f2, (M_codeSort (M_cd v)), (M_codeA (M_cd v)), (M_codeB (M_cd v)), (M_codeC (M_cd v)), (M_codeName (M_cd v)), (M_codePlace (M_cd v)), (M_codeTo (M_cd v)), (M_labelName (M_cd v)), (M_labelAt (M_cd v)), (M_data (M_cd v))), (M_rn v), (M_ex v), (M_im v), (M_al v), (M_thrown v)))) else none)
abbrev rm_M_reads : Room := { frames := 0, cells := 0, slots := 0, locals := 0 }
set_option maxRecDepth 100000 in
set_option maxHeartbeats 4000000 in
theorem m_M_reads (l : Launch) (D : va_G) (K : Nat → ClassId) (q : Nat → Nat) (v : T_M) (a1 : Int32) (a2 : Int32) {o_v : T_M} (hf : f_M_reads v a1 a2 = some o_v) : MV l yX10_reads cX10_reads 3 (none) rm_M_reads D K [.ref (q 0), .int a1, .int a2] (cl_M K q v) (cl_M K q o_v) := by
  refine MV_of (loc0 := [(0, .ref (q 0)), (1, .int a1), (2, .int a2)]) (by decide +kernel) rfl (Nat.le_of_ble_eq_true rfl) ?_
  intro p e s m args below meth c A cx
  unfold f_M_reads at hf
  refine r_ws (ws' := [((q 0), ob 9 [.int (M_thrown v), .ref (q 1), .int (M_taped (M_tp v)), .ref (q 2), .ref (q 3), .ref (q 4), .ref (q 5), .ref (q 6), .ref (q 7), .ref (q 8), .ref (q 9), .ref (q 10), .ref (q 11), .ref (q 12), .ref (q 13), .ref (q 14), .int (M_lines (M_rd v)), .int (M_size (M_rd v)), .int (M_at (M_rd v)), .int (M_place (M_rd v)), .int (M_sort (M_rd v)), .int (M_value (M_rd v)), .int (M_fault (M_rd v)), .int (M_faultPlace (M_rd v)), .int (M_lastFault (M_lf v)), .int (M_lastPlace (M_lf v)), .ref (q 15), .ref (q 16), .ref (q 17), .ref (q 18), .int (M_hasImage (M_im v)), .int (M_spanNow (M_rn v)), .ref (q 19), .int (M_placeThen (M_rn v)), .int (M_alonePlace (M_al v)), .int (M_aloneSteps (M_al v)), .int (M_aloneOut (M_al v)), .ref (q 20), .ref (q 21), .ref (q 22), .ref (q 23), .int (M_shotAlarm (M_ex v)), .int (M_drawn (M_ex v))]), ((q 1), aI K 700 (M_tape (M_tp v))), ((q 2), aI K 20 (M_number (M_cd v))), ((q 3), aZ K 5 (M_isTold (M_rd v))), ((q 4), aI K 80 (M_codeSort (M_cd v))), ((q 5), aI K 80 (M_codeA (M_cd v))), ((q 6), aI K 80 (M_codeB (M_cd v))), ((q 7), aI K 80 (M_codeC (M_cd v))), ((q 8), aI K 80 (M_codeName (M_cd v))), ((q 9), aI K 80 (M_codePlace (M_cd v))), ((q 10), aI K 80 (M_codeTo (M_cd v))), ((q 11), aI K 280 (M_labelName (M_cd v))), ((q 12), aI K 280 (M_labelAt (M_cd v))), ((q 13), aI K 64 (M_data (M_cd v))), ((q 14), aZ K 32 (M_hasData (M_rd v))), ((q 15), aI K 314 (M_s (M_rn v))), ((q 16), aI K 314 (M_aside (M_ex v))), ((q 17), aI K 314 (M_further (M_ex v))), ((q 18), aI K 314 (M_image (M_im v))), ((q 19), aI K 3 (M_sizeNow (M_rn v))), ((q 20), aI K 8 (M_aloneRegister (M_al v))), ((q 21), aI K 4 (M_aloneReal (M_al v))), ((q 22), aI K 32 (M_aloneMemory (M_al v))), ((q 23), aI K 999 (M_aloneOutput (M_al v)))]) rfl ?_
  refine r_aload_n (pc := 0) cx dX10_reads_0 0 rfl ?_
  refine r_get (pc := 1) cx cf_X10 0 3 rfl (by decide) rfl wd_1319 dX10_reads_1 ?_
  refine r_bipush (pc := 4) cx dX10_reads_4 bp_10 ?_
  refine r_iload_n (pc := 6) cx dX10_reads_6 1 rfl ?_
  refine r_iadd (pc := 7) cx dX10_reads_7 ?_
  refine r_iload_n (pc := 8) cx dX10_reads_8 2 rfl ?_
  obtain ⟨h1, hf⟩ := chk_of hf
  obtain ⟨f2, ef2, hf⟩ := nm_of hf
  refine r_iast (pc := 9) (ws' := [((q 0), ob 9 [.int (M_thrown v), .ref (q 1), .int (M_taped (M_tp v)), .ref (q 2), .ref (q 3), .ref (q 4), .ref (q 5), .ref (q 6), .ref (q 7), .ref (q 8), .ref (q 9), .ref (q 10), .ref (q 11), .ref (q 12), .ref (q 13), .ref (q 14), .int (M_lines (M_rd v)), .int (M_size (M_rd v)), .int (M_at (M_rd v)), .int (M_place (M_rd v)), .int (M_sort (M_rd v)), .int (M_value (M_rd v)), .int (M_fault (M_rd v)), .int (M_faultPlace (M_rd v)), .int (M_lastFault (M_lf v)), .int (M_lastPlace (M_lf v)), .ref (q 15), .ref (q 16), .ref (q 17), .ref (q 18), .int (M_hasImage (M_im v)), .int (M_spanNow (M_rn v)), .ref (q 19), .int (M_placeThen (M_rn v)), .int (M_alonePlace (M_al v)), .int (M_aloneSteps (M_al v)), .int (M_aloneOut (M_al v)), .ref (q 20), .ref (q 21), .ref (q 22), .ref (q 23), .int (M_shotAlarm (M_ex v)), .int (M_drawn (M_ex v))]), ((q 1), aI K 700 (M_tape (M_tp v))), ((q 2), aI K 20 f2), ((q 3), aZ K 5 (M_isTold (M_rd v))), ((q 4), aI K 80 (M_codeSort (M_cd v))), ((q 5), aI K 80 (M_codeA (M_cd v))), ((q 6), aI K 80 (M_codeB (M_cd v))), ((q 7), aI K 80 (M_codeC (M_cd v))), ((q 8), aI K 80 (M_codeName (M_cd v))), ((q 9), aI K 80 (M_codePlace (M_cd v))), ((q 10), aI K 80 (M_codeTo (M_cd v))), ((q 11), aI K 280 (M_labelName (M_cd v))), ((q 12), aI K 280 (M_labelAt (M_cd v))), ((q 13), aI K 64 (M_data (M_cd v))), ((q 14), aZ K 32 (M_hasData (M_rd v))), ((q 15), aI K 314 (M_s (M_rn v))), ((q 16), aI K 314 (M_aside (M_ex v))), ((q 17), aI K 314 (M_further (M_ex v))), ((q 18), aI K 314 (M_image (M_im v))), ((q 19), aI K 3 (M_sizeNow (M_rn v))), ((q 20), aI K 8 (M_aloneRegister (M_al v))), ((q 21), aI K 4 (M_aloneReal (M_al v))), ((q 22), aI K 32 (M_aloneMemory (M_al v))), ((q 23), aI K 999 (M_aloneOutput (M_al v)))]) cx 2 rfl h1 dX10_reads_9 ef2 rfl ?_
  cases hf
  exact r_vret (pc := 10) cx rfl dX10_reads_10
theorem yv_X10_reads : YV yX10_reads cX10_reads 3 (none) 2 := ⟨⟨by decide +kernel, by decide +kernel, by decide +kernel⟩, wd_1303, wd_102, wd_1302, wd_27⟩
def f_M_labelled_L3 (v : T_M) (a1 : Int32) (a2 : Int32) (a3 : Int32) (k3_22 : Int32 → Option (Int32)) (k3_31 : Option (Int32)) : Nat → Int32 → Option (Int32)
  | 0, _ => none
  | n3 + 1, x1 =>
    (if a2 ≤ x1 then (k3_31) else (if ix (a1 + x1) 280 then (if ((M_labelName (M_cd v)) ((a1 + x1)).toNatClampNeg) = a3 then (k3_22 x1) else (nm (x1 + (1 : Int32)) fun (x6 : Int32) => (f_M_labelled_L3 v a1 a2 a3 k3_22 k3_31 n3 x6))) else none))
def f_M_labelled (v : T_M) (a1 : Int32) (a2 : Int32) (a3 : Int32) : Option (Int32) :=
  (f_M_labelled_L3 v a1 a2 a3 (fun (x2 : Int32) => (some x2)) (some (-1 : Int32)) LF (0 : Int32))
abbrev rm_M_labelled : Room := { frames := 0, cells := 0, slots := 0, locals := 0 }
set_option maxRecDepth 100000 in
set_option maxHeartbeats 4000000 in
theorem m_M_labelled (l : Launch) (D : va_G) (K : Nat → ClassId) (q : Nat → Nat) (v : T_M) (a1 : Int32) (a2 : Int32) (a3 : Int32) {r_ : Int32} (hf : f_M_labelled v a1 a2 a3 = some r_) : MI l yX10_labelled cX10_labelled 5 (some .int) rm_M_labelled D K [.ref (q 0), .int a1, .int a2, .int a3] (cl_M K q v) r_ (cl_M K q v) := by
  refine MI_of (loc0 := [(0, .ref (q 0)), (1, .int a1), (2, .int a2), (3, .int a3)]) (by decide +kernel) rfl (Nat.le_of_ble_eq_true rfl) ?_
  intro p e s m args below meth c A cx
  unfold f_M_labelled at hf
  refine r_ws (ws' := [((q 0), ob 9 [.int (M_thrown v), .ref (q 1), .int (M_taped (M_tp v)), .ref (q 2), .ref (q 3), .ref (q 4), .ref (q 5), .ref (q 6), .ref (q 7), .ref (q 8), .ref (q 9), .ref (q 10), .ref (q 11), .ref (q 12), .ref (q 13), .ref (q 14), .int (M_lines (M_rd v)), .int (M_size (M_rd v)), .int (M_at (M_rd v)), .int (M_place (M_rd v)), .int (M_sort (M_rd v)), .int (M_value (M_rd v)), .int (M_fault (M_rd v)), .int (M_faultPlace (M_rd v)), .int (M_lastFault (M_lf v)), .int (M_lastPlace (M_lf v)), .ref (q 15), .ref (q 16), .ref (q 17), .ref (q 18), .int (M_hasImage (M_im v)), .int (M_spanNow (M_rn v)), .ref (q 19), .int (M_placeThen (M_rn v)), .int (M_alonePlace (M_al v)), .int (M_aloneSteps (M_al v)), .int (M_aloneOut (M_al v)), .ref (q 20), .ref (q 21), .ref (q 22), .ref (q 23), .int (M_shotAlarm (M_ex v)), .int (M_drawn (M_ex v))]), ((q 1), aI K 700 (M_tape (M_tp v))), ((q 2), aI K 20 (M_number (M_cd v))), ((q 3), aZ K 5 (M_isTold (M_rd v))), ((q 4), aI K 80 (M_codeSort (M_cd v))), ((q 5), aI K 80 (M_codeA (M_cd v))), ((q 6), aI K 80 (M_codeB (M_cd v))), ((q 7), aI K 80 (M_codeC (M_cd v))), ((q 8), aI K 80 (M_codeName (M_cd v))), ((q 9), aI K 80 (M_codePlace (M_cd v))), ((q 10), aI K 80 (M_codeTo (M_cd v))), ((q 11), aI K 280 (M_labelName (M_cd v))), ((q 12), aI K 280 (M_labelAt (M_cd v))), ((q 13), aI K 64 (M_data (M_cd v))), ((q 14), aZ K 32 (M_hasData (M_rd v))), ((q 15), aI K 314 (M_s (M_rn v))), ((q 16), aI K 314 (M_aside (M_ex v))), ((q 17), aI K 314 (M_further (M_ex v))), ((q 18), aI K 314 (M_image (M_im v))), ((q 19), aI K 3 (M_sizeNow (M_rn v))), ((q 20), aI K 8 (M_aloneRegister (M_al v))), ((q 21), aI K 4 (M_aloneReal (M_al v))), ((q 22), aI K 32 (M_aloneMemory (M_al v))), ((q 23), aI K 999 (M_aloneOutput (M_al v)))]) rfl ?_
  refine r_iconst (pc := 0) cx dX10_labelled_0 ic_0 ?_
  refine r_istore (pc := 1) (loc' := [(4, .int (0 : Int32)), (0, .ref (q 0)), (1, .int a1), (2, .int a2), (3, .int a3)]) cx dX10_labelled_1 (by decide) rfl ?_
  have hL3 : ∀ (k3_22 : Int32 → Option (Int32)) (k3_31 : Option (Int32)), (∀ (x2 : Int32), k3_22 x2 = some r_ → WW p l e rm_M_labelled s m args below meth c D A 5 0 0 (MQ below (QI D K A r_ (cl_M K q v)) args s 0 0 A) ([((q 0), ob 9 [.int (M_thrown v), .ref (q 1), .int (M_taped (M_tp v)), .ref (q 2), .ref (q 3), .ref (q 4), .ref (q 5), .ref (q 6), .ref (q 7), .ref (q 8), .ref (q 9), .ref (q 10), .ref (q 11), .ref (q 12), .ref (q 13), .ref (q 14), .int (M_lines (M_rd v)), .int (M_size (M_rd v)), .int (M_at (M_rd v)), .int (M_place (M_rd v)), .int (M_sort (M_rd v)), .int (M_value (M_rd v)), .int (M_fault (M_rd v)), .int (M_faultPlace (M_rd v)), .int (M_lastFault (M_lf v)), .int (M_lastPlace (M_lf v)), .ref (q 15), .ref (q 16), .ref (q 17), .ref (q 18), .int (M_hasImage (M_im v)), .int (M_spanNow (M_rn v)), .ref (q 19), .int (M_placeThen (M_rn v)), .int (M_alonePlace (M_al v)), .int (M_aloneSteps (M_al v)), .int (M_aloneOut (M_al v)), .ref (q 20), .ref (q 21), .ref (q 22), .ref (q 23), .int (M_shotAlarm (M_ex v)), .int (M_drawn (M_ex v))]), ((q 1), aI K 700 (M_tape (M_tp v))), ((q 2), aI K 20 (M_number (M_cd v))), ((q 3), aZ K 5 (M_isTold (M_rd v))), ((q 4), aI K 80 (M_codeSort (M_cd v))), ((q 5), aI K 80 (M_codeA (M_cd v))), ((q 6), aI K 80 (M_codeB (M_cd v))), ((q 7), aI K 80 (M_codeC (M_cd v))), ((q 8), aI K 80 (M_codeName (M_cd v))), ((q 9), aI K 80 (M_codePlace (M_cd v))), ((q 10), aI K 80 (M_codeTo (M_cd v))), ((q 11), aI K 280 (M_labelName (M_cd v))), ((q 12), aI K 280 (M_labelAt (M_cd v))), ((q 13), aI K 64 (M_data (M_cd v))), ((q 14), aZ K 32 (M_hasData (M_rd v))), ((q 15), aI K 314 (M_s (M_rn v))), ((q 16), aI K 314 (M_aside (M_ex v))), ((q 17), aI K 314 (M_further (M_ex v))), ((q 18), aI K 314 (M_image (M_im v))), ((q 19), aI K 3 (M_sizeNow (M_rn v))), ((q 20), aI K 8 (M_aloneRegister (M_al v))), ((q 21), aI K 4 (M_aloneReal (M_al v))), ((q 22), aI K 32 (M_aloneMemory (M_al v))), ((q 23), aI K 999 (M_aloneOutput (M_al v)))]) ([(4, .int x2)]) ([]) 22) → (k3_31 = some r_ → WW p l e rm_M_labelled s m args below meth c D A 5 0 0 (MQ below (QI D K A r_ (cl_M K q v)) args s 0 0 A) ([((q 0), ob 9 [.int (M_thrown v), .ref (q 1), .int (M_taped (M_tp v)), .ref (q 2), .ref (q 3), .ref (q 4), .ref (q 5), .ref (q 6), .ref (q 7), .ref (q 8), .ref (q 9), .ref (q 10), .ref (q 11), .ref (q 12), .ref (q 13), .ref (q 14), .int (M_lines (M_rd v)), .int (M_size (M_rd v)), .int (M_at (M_rd v)), .int (M_place (M_rd v)), .int (M_sort (M_rd v)), .int (M_value (M_rd v)), .int (M_fault (M_rd v)), .int (M_faultPlace (M_rd v)), .int (M_lastFault (M_lf v)), .int (M_lastPlace (M_lf v)), .ref (q 15), .ref (q 16), .ref (q 17), .ref (q 18), .int (M_hasImage (M_im v)), .int (M_spanNow (M_rn v)), .ref (q 19), .int (M_placeThen (M_rn v)), .int (M_alonePlace (M_al v)), .int (M_aloneSteps (M_al v)), .int (M_aloneOut (M_al v)), .ref (q 20), .ref (q 21), .ref (q 22), .ref (q 23), .int (M_shotAlarm (M_ex v)), .int (M_drawn (M_ex v))]), ((q 1), aI K 700 (M_tape (M_tp v))), ((q 2), aI K 20 (M_number (M_cd v))), ((q 3), aZ K 5 (M_isTold (M_rd v))), ((q 4), aI K 80 (M_codeSort (M_cd v))), ((q 5), aI K 80 (M_codeA (M_cd v))), ((q 6), aI K 80 (M_codeB (M_cd v))), ((q 7), aI K 80 (M_codeC (M_cd v))), ((q 8), aI K 80 (M_codeName (M_cd v))), ((q 9), aI K 80 (M_codePlace (M_cd v))), ((q 10), aI K 80 (M_codeTo (M_cd v))), ((q 11), aI K 280 (M_labelName (M_cd v))), ((q 12), aI K 280 (M_labelAt (M_cd v))), ((q 13), aI K 64 (M_data (M_cd v))), ((q 14), aZ K 32 (M_hasData (M_rd v))), ((q 15), aI K 314 (M_s (M_rn v))), ((q 16), aI K 314 (M_aside (M_ex v))), ((q 17), aI K 314 (M_further (M_ex v))), ((q 18), aI K 314 (M_image (M_im v))), ((q 19), aI K 3 (M_sizeNow (M_rn v))), ((q 20), aI K 8 (M_aloneRegister (M_al v))), ((q 21), aI K 4 (M_aloneReal (M_al v))), ((q 22), aI K 32 (M_aloneMemory (M_al v))), ((q 23), aI K 999 (M_aloneOutput (M_al v)))]) ([]) ([]) 31) → ∀ (n3 : Nat) (x1 : Int32), f_M_labelled_L3 v a1 a2 a3 k3_22 k3_31 n3 x1 = some r_ → WW p l e rm_M_labelled s m args below meth c D A 5 0 0 (MQ below (QI D K A r_ (cl_M K q v)) args s 0 0 A) ([((q 0), ob 9 [.int (M_thrown v), .ref (q 1), .int (M_taped (M_tp v)), .ref (q 2), .ref (q 3), .ref (q 4), .ref (q 5), .ref (q 6), .ref (q 7), .ref (q 8), .ref (q 9), .ref (q 10), .ref (q 11), .ref (q 12), .ref (q 13), .ref (q 14), .int (M_lines (M_rd v)), .int (M_size (M_rd v)), .int (M_at (M_rd v)), .int (M_place (M_rd v)), .int (M_sort (M_rd v)), .int (M_value (M_rd v)), .int (M_fault (M_rd v)), .int (M_faultPlace (M_rd v)), .int (M_lastFault (M_lf v)), .int (M_lastPlace (M_lf v)), .ref (q 15), .ref (q 16), .ref (q 17), .ref (q 18), .int (M_hasImage (M_im v)), .int (M_spanNow (M_rn v)), .ref (q 19), .int (M_placeThen (M_rn v)), .int (M_alonePlace (M_al v)), .int (M_aloneSteps (M_al v)), .int (M_aloneOut (M_al v)), .ref (q 20), .ref (q 21), .ref (q 22), .ref (q 23), .int (M_shotAlarm (M_ex v)), .int (M_drawn (M_ex v))]), ((q 1), aI K 700 (M_tape (M_tp v))), ((q 2), aI K 20 (M_number (M_cd v))), ((q 3), aZ K 5 (M_isTold (M_rd v))), ((q 4), aI K 80 (M_codeSort (M_cd v))), ((q 5), aI K 80 (M_codeA (M_cd v))), ((q 6), aI K 80 (M_codeB (M_cd v))), ((q 7), aI K 80 (M_codeC (M_cd v))), ((q 8), aI K 80 (M_codeName (M_cd v))), ((q 9), aI K 80 (M_codePlace (M_cd v))), ((q 10), aI K 80 (M_codeTo (M_cd v))), ((q 11), aI K 280 (M_labelName (M_cd v))), ((q 12), aI K 280 (M_labelAt (M_cd v))), ((q 13), aI K 64 (M_data (M_cd v))), ((q 14), aZ K 32 (M_hasData (M_rd v))), ((q 15), aI K 314 (M_s (M_rn v))), ((q 16), aI K 314 (M_aside (M_ex v))), ((q 17), aI K 314 (M_further (M_ex v))), ((q 18), aI K 314 (M_image (M_im v))), ((q 19), aI K 3 (M_sizeNow (M_rn v))), ((q 20), aI K 8 (M_aloneRegister (M_al v))), ((q 21), aI K 4 (M_aloneReal (M_al v))), ((q 22), aI K 32 (M_aloneMemory (M_al v))), ((q 23), aI K 999 (M_aloneOutput (M_al v)))]) ([(0, .ref (q 0)), (1, .int a1), (2, .int a2), (3, .int a3), (4, .int x1)]) ([]) 3 := by
    intro k3_22 k3_31 hk3_22 hk3_31 n3
    induction n3 with
    | zero => intro x1 hf; exact (nomatch (show (none : Option (Int32)) = some _ from hf))
    | succ n3 ih3 =>
      intro x1 hf
      rw [f_M_labelled_L3] at hf
      refine r_iload (pc := 3) cx dX10_labelled_3 4 rfl ?_
      refine r_iload_n (pc := 5) cx dX10_labelled_5 2 rfl ?_
      refine r_icmp_ge (pc := 6) (tgt := 31) cx dX10_labelled_6 (by decide) (fun h3 => ?_) (fun h3 => ?_)
      · have hf := ifp h3 hf
        refine r_loc (loc' := []) [] rfl ?_
        exact hk3_31 hf
      · have hf := ifn h3 hf
        refine r_aload_n (pc := 9) cx dX10_labelled_9 0 rfl ?_
        refine r_get (pc := 10) cx cf_X10 0 12 rfl (by decide) rfl wd_1328 dX10_labelled_10 ?_
        refine r_iload_n (pc := 13) cx dX10_labelled_13 1 rfl ?_
        refine r_iload (pc := 14) cx dX10_labelled_14 4 rfl ?_
        refine r_iadd (pc := 16) cx dX10_labelled_16 ?_
        obtain ⟨h4, hf⟩ := chk_of hf
        refine r_iald (pc := 17) cx 11 rfl h4 dX10_labelled_17 ?_
        refine r_iload_n (pc := 18) cx dX10_labelled_18 3 rfl ?_
        refine r_icmp_ne (pc := 19) (tgt := 25) cx dX10_labelled_19 (by decide) (fun h5 => ?_) (fun h5 => ?_)
        · have hf := ifn h5 hf
          obtain ⟨x6, ex6, hf⟩ := nm_of hf
          refine r_iinc (pc := 25) (loc' := [(4, .int x6), (0, .ref (q 0)), (1, .int a1), (2, .int a2), (3, .int a3)]) (v := x6) cx dX10_labelled_25 4 rfl ((congrArg (fun z => x1 + z) ic_1).trans ex6.symm) (by decide) rfl ?_
          refine r_goto (pc := 28) (tgt := 3) cx dX10_labelled_28 (by decide) ?_
          refine r_loc (loc' := [(0, .ref (q 0)), (1, .int a1), (2, .int a2), (3, .int a3), (4, .int x6)]) [1, 2, 3, 4, 0] rfl ?_
          exact ih3 _ hf
        · have hf := ifp h5 hf
          refine r_loc (loc' := [(4, .int x1)]) [4] rfl ?_
          exact hk3_22 _ hf
  refine r_loc (loc' := [(0, .ref (q 0)), (1, .int a1), (2, .int a2), (3, .int a3), (4, .int (0 : Int32))]) [1, 2, 3, 4, 0] rfl ?_
  refine hL3 _ _ (fun x2 hf => ?_) (fun hf => ?_) _ _ hf
  · refine r_iload (pc := 22) cx dX10_labelled_22 0 rfl ?_
    cases hf
    exact r_iret (pc := 24) cx rfl rfl dX10_labelled_24
  · refine r_iconst (pc := 31) cx dX10_labelled_31 ic_m1 ?_
    cases hf
    exact r_iret (pc := 32) cx rfl rfl dX10_labelled_32
theorem yv_X10_labelled : YV yX10_labelled cX10_labelled 5 (some .int) 3 := ⟨⟨by decide +kernel, by decide +kernel, by decide +kernel⟩, wd_1536, wd_102, wd_1535, wd_47⟩
def f_M_isJump (a0 : Int32) : Option (Int32) :=
  (if a0 < (20 : Int32) then (some (0 : Int32)) else (if (23 : Int32) < a0 then (some (0 : Int32)) else (some (1 : Int32))))
abbrev rm_M_isJump : Room := { frames := 0, cells := 0, slots := 0, locals := 0 }
set_option maxRecDepth 100000 in
set_option maxHeartbeats 4000000 in
theorem m_M_isJump (l : Launch) (D : va_G) (K : Nat → ClassId) (a0 : Int32) {r_ : Int32} (hf : f_M_isJump a0 = some r_) : MI l yX10_isJump cX10_isJump 1 (some .boolean) rm_M_isJump D K [.int a0] ([]) r_ ([]) := by
  refine MI_of (loc0 := [(0, .int a0)]) (by decide +kernel) rfl (Nat.le_of_ble_eq_true rfl) ?_
  intro p e s m args below meth c A cx
  unfold f_M_isJump at hf
  refine r_ws (ws' := []) rfl ?_
  refine r_iload_n (pc := 0) cx dX10_isJump_0 0 rfl ?_
  refine r_bipush (pc := 1) cx dX10_isJump_1 bp_20 ?_
  refine r_icmp_lt (pc := 3) (tgt := 16) cx dX10_isJump_3 (by decide) (fun h1 => ?_) (fun h1 => ?_)
  · have hf := ifp h1 hf
    refine r_iconst (pc := 16) cx dX10_isJump_16 ic_0 ?_
    cases hf
    exact r_zret (pc := 17) cx (Or.inl rfl) rfl rfl dX10_isJump_17
  · have hf := ifn h1 hf
    refine r_iload_n (pc := 6) cx dX10_isJump_6 0 rfl ?_
    refine r_bipush (pc := 7) cx dX10_isJump_7 bp_23 ?_
    refine r_icmp_gt (pc := 9) (tgt := 16) cx dX10_isJump_9 (by decide) (fun h2 => ?_) (fun h2 => ?_)
    · have hf := ifp h2 hf
      refine r_iconst (pc := 16) cx dX10_isJump_16 ic_0 ?_
      cases hf
      exact r_zret (pc := 17) cx (Or.inl rfl) rfl rfl dX10_isJump_17
    · have hf := ifn h2 hf
      refine r_iconst (pc := 12) cx dX10_isJump_12 ic_1 ?_
      refine r_goto (pc := 13) (tgt := 17) cx dX10_isJump_13 (by decide) ?_
      cases hf
      exact r_zret (pc := 17) cx (Or.inr rfl) rfl rfl dX10_isJump_17
theorem ys_X10_isJump : YS yX10_isJump cX10_isJump 1 (some .boolean) 1 := ⟨⟨by decide +kernel, by decide +kernel, by decide +kernel⟩, wd_1551, wd_102, wd_1550⟩
def f_M_freshText_L2  (k2_20 : T_M → Option (T_M)) : Nat → Int32 → T_M → Option (T_M)
  | 0, _, _ => none
  | n2 + 1, x1, v2 =>
    (if (10 : Int32) ≤ x1 then (k2_20 v2) else (bd (f_M_reads v2 x1 (0 : Int32)) fun (v5 : T_M) => (nm (x1 + (1 : Int32)) fun (x7 : Int32) => (f_M_freshText_L2 k2_20 n2 x7 v5))))
def f_M_freshText_L41  (k41_60 : T_M → Option (T_M)) : Nat → Int32 → T_M → Option (T_M)
  | 0, _, _ => none
  | n41 + 1, x14, v15 =>
    (if (3 : Int32) ≤ x14 then (k41_60 v15) else (bd (f_M_reads v15 ((3 : Int32) + x14) (4 : Int32)) fun (v18 : T_M) => (nm (x14 + (1 : Int32)) fun (x20 : Int32) => (f_M_freshText_L41 k41_60 n41 x20 v18))))
def f_M_freshText_L69  (k69_87 : (Nat → Int32) → Option (T_M)) : Nat → Int32 → (Nat → Int32) → Option (T_M)
  | 0, _, _ => none
  | n69 + 1, x23, f24 =>
    (if (5 : Int32) ≤ x23 then (k69_87 f24) else (if ix x23 5 then (nm (upd f24 x23.toNatClampNeg (vp_nar .boolean (0 : Int32))) fun (f28 : Nat → Int32) => (nm (x23 + (1 : Int32)) fun (x29 : Int32) => (f_M_freshText_L69 k69_87 n69 x29 f28))) else none))
def f_M_freshText_L89  (k89_118 : (Nat → Int32) → (Nat → Int32) → Option (T_M)) : Nat → Int32 → (Nat → Int32) → (Nat → Int32) → Option (T_M)
  | 0, _, _, _ => none
  | n89 + 1, x30, f31, f32 =>
    (if (32 : Int32) ≤ x30 then (k89_118 f31 f32) else (if ix x30 32 then (nm (upd f32 x30.toNatClampNeg (vp_nar .boolean (0 : Int32))) fun (f37 : Nat → Int32) => (if ix ((32 : Int32) + x30) 64 then (nm (upd f31 (((32 : Int32) + x30)).toNatClampNeg (0 : Int32)) fun (f39 : Nat → Int32) => (nm (x30 + (1 : Int32)) fun (x40 : Int32) => (f_M_freshText_L89 k89_118 n89 x40 f39 f37))) else none)) else none))
def f_M_freshText (v : T_M) : Option (T_M) :=
  (f_M_freshText_L2 (fun (v3 : T_M) => (bd (f_M_reads v3 (0 : Int32) (8 : Int32)) fun (v8 : T_M) => (bd (f_M_reads v8 (1 : Int32) (1 : Int32)) fun (v10 : T_M) => (bd (f_M_reads v10 (2 : Int32) (4 : Int32)) fun (v12 : T_M) => (f_M_freshText_L41 (fun (v16 : T_M) => (bd (f_M_reads v16 (6 : Int32) (3 : Int32)) fun (v21 : T_M) => (f_M_freshText_L69 (fun (f25 : (Nat → Int32)) => (f_M_freshText_L89 (fun (f33 : (Nat → Int32)) (f34 : (Nat → Int32)) => (some ((M_tp v21), ((M_lines (M_rd v21)), (M_size (M_rd v21)), (M_at (M_rd v21)), (M_place (M_rd v21)), (M_sort (M_rd v21)), (M_value (M_rd v21)), (M_fault (M_rd v21)), (M_faultPlace (M_rd v21)), f25, f34), (M_lf v21), ((M_number (M_cd v21)), (M_codeSort (M_cd v21)), (M_codeA (M_cd v21)), (M_codeB (M_cd v21)), (M_codeC (M_cd v21)), (M_codeName (M_cd v21)), (M_codePlace (M_cd v21)), (M_codeTo (M_cd v21)), (M_labelName (M_cd v21)), (M_labelAt (M_cd v21)), f33), (M_rn v21), (M_ex v21), (M_im v21), (M_al v21), (M_thrown v21)))) LF (0 : Int32) (M_data (M_cd v21)) (M_hasData (M_rd v21)))) LF (0 : Int32) (M_isTold (M_rd v21))))) LF (0 : Int32) v12))))) LF (0 : Int32) v)
abbrev rm_M_freshText : Room := { frames := 1, cells := 0, slots := 0, locals := 22 }
set_option maxRecDepth 100000 in
set_option maxHeartbeats 4000000 in
theorem m_M_freshText (l : Launch) (D : va_G) (K : Nat → ClassId) (q : Nat → Nat) (v : T_M) {o_v : T_M} (hf : f_M_freshText v = some o_v) : MV l yX10_freshText cX10_freshText 2 (none) rm_M_freshText D K [.ref (q 0)] (cl_M K q v) (cl_M K q o_v) := by
  refine MV_of (loc0 := [(0, .ref (q 0))]) (by decide +kernel) rfl (Nat.le_of_ble_eq_true rfl) ?_
  intro p e s m args below meth c A cx
  unfold f_M_freshText at hf
  refine r_ws (ws' := [((q 0), ob 9 [.int (M_thrown v), .ref (q 1), .int (M_taped (M_tp v)), .ref (q 2), .ref (q 3), .ref (q 4), .ref (q 5), .ref (q 6), .ref (q 7), .ref (q 8), .ref (q 9), .ref (q 10), .ref (q 11), .ref (q 12), .ref (q 13), .ref (q 14), .int (M_lines (M_rd v)), .int (M_size (M_rd v)), .int (M_at (M_rd v)), .int (M_place (M_rd v)), .int (M_sort (M_rd v)), .int (M_value (M_rd v)), .int (M_fault (M_rd v)), .int (M_faultPlace (M_rd v)), .int (M_lastFault (M_lf v)), .int (M_lastPlace (M_lf v)), .ref (q 15), .ref (q 16), .ref (q 17), .ref (q 18), .int (M_hasImage (M_im v)), .int (M_spanNow (M_rn v)), .ref (q 19), .int (M_placeThen (M_rn v)), .int (M_alonePlace (M_al v)), .int (M_aloneSteps (M_al v)), .int (M_aloneOut (M_al v)), .ref (q 20), .ref (q 21), .ref (q 22), .ref (q 23), .int (M_shotAlarm (M_ex v)), .int (M_drawn (M_ex v))]), ((q 1), aI K 700 (M_tape (M_tp v))), ((q 2), aI K 20 (M_number (M_cd v))), ((q 3), aZ K 5 (M_isTold (M_rd v))), ((q 4), aI K 80 (M_codeSort (M_cd v))), ((q 5), aI K 80 (M_codeA (M_cd v))), ((q 6), aI K 80 (M_codeB (M_cd v))), ((q 7), aI K 80 (M_codeC (M_cd v))), ((q 8), aI K 80 (M_codeName (M_cd v))), ((q 9), aI K 80 (M_codePlace (M_cd v))), ((q 10), aI K 80 (M_codeTo (M_cd v))), ((q 11), aI K 280 (M_labelName (M_cd v))), ((q 12), aI K 280 (M_labelAt (M_cd v))), ((q 13), aI K 64 (M_data (M_cd v))), ((q 14), aZ K 32 (M_hasData (M_rd v))), ((q 15), aI K 314 (M_s (M_rn v))), ((q 16), aI K 314 (M_aside (M_ex v))), ((q 17), aI K 314 (M_further (M_ex v))), ((q 18), aI K 314 (M_image (M_im v))), ((q 19), aI K 3 (M_sizeNow (M_rn v))), ((q 20), aI K 8 (M_aloneRegister (M_al v))), ((q 21), aI K 4 (M_aloneReal (M_al v))), ((q 22), aI K 32 (M_aloneMemory (M_al v))), ((q 23), aI K 999 (M_aloneOutput (M_al v)))]) rfl ?_
  refine r_iconst (pc := 0) cx dX10_freshText_0 ic_0 ?_
  refine r_istore_n (pc := 1) (loc' := [(1, .int (0 : Int32)), (0, .ref (q 0))]) cx dX10_freshText_1 rfl (by decide) rfl ?_
  have hL2 : ∀ (k2_20 : T_M → Option (T_M)), (∀ (v3 : T_M), k2_20 v3 = some o_v → WW p l e rm_M_freshText s m args below meth c D A 2 0 0 (MQ below (QV D K A (cl_M K q o_v)) args s 0 0 A) ([((q 0), ob 9 [.int (M_thrown v3), .ref (q 1), .int (M_taped (M_tp v3)), .ref (q 2), .ref (q 3), .ref (q 4), .ref (q 5), .ref (q 6), .ref (q 7), .ref (q 8), .ref (q 9), .ref (q 10), .ref (q 11), .ref (q 12), .ref (q 13), .ref (q 14), .int (M_lines (M_rd v3)), .int (M_size (M_rd v3)), .int (M_at (M_rd v3)), .int (M_place (M_rd v3)), .int (M_sort (M_rd v3)), .int (M_value (M_rd v3)), .int (M_fault (M_rd v3)), .int (M_faultPlace (M_rd v3)), .int (M_lastFault (M_lf v3)), .int (M_lastPlace (M_lf v3)), .ref (q 15), .ref (q 16), .ref (q 17), .ref (q 18), .int (M_hasImage (M_im v3)), .int (M_spanNow (M_rn v3)), .ref (q 19), .int (M_placeThen (M_rn v3)), .int (M_alonePlace (M_al v3)), .int (M_aloneSteps (M_al v3)), .int (M_aloneOut (M_al v3)), .ref (q 20), .ref (q 21), .ref (q 22), .ref (q 23), .int (M_shotAlarm (M_ex v3)), .int (M_drawn (M_ex v3))]), ((q 1), aI K 700 (M_tape (M_tp v3))), ((q 2), aI K 20 (M_number (M_cd v3))), ((q 3), aZ K 5 (M_isTold (M_rd v3))), ((q 4), aI K 80 (M_codeSort (M_cd v3))), ((q 5), aI K 80 (M_codeA (M_cd v3))), ((q 6), aI K 80 (M_codeB (M_cd v3))), ((q 7), aI K 80 (M_codeC (M_cd v3))), ((q 8), aI K 80 (M_codeName (M_cd v3))), ((q 9), aI K 80 (M_codePlace (M_cd v3))), ((q 10), aI K 80 (M_codeTo (M_cd v3))), ((q 11), aI K 280 (M_labelName (M_cd v3))), ((q 12), aI K 280 (M_labelAt (M_cd v3))), ((q 13), aI K 64 (M_data (M_cd v3))), ((q 14), aZ K 32 (M_hasData (M_rd v3))), ((q 15), aI K 314 (M_s (M_rn v3))), ((q 16), aI K 314 (M_aside (M_ex v3))), ((q 17), aI K 314 (M_further (M_ex v3))), ((q 18), aI K 314 (M_image (M_im v3))), ((q 19), aI K 3 (M_sizeNow (M_rn v3))), ((q 20), aI K 8 (M_aloneRegister (M_al v3))), ((q 21), aI K 4 (M_aloneReal (M_al v3))), ((q 22), aI K 32 (M_aloneMemory (M_al v3))), ((q 23), aI K 999 (M_aloneOutput (M_al v3)))]) ([(0, .ref (q 0))]) ([]) 20) → ∀ (n2 : Nat) (x1 : Int32) (v2 : T_M), f_M_freshText_L2 k2_20 n2 x1 v2 = some o_v → WW p l e rm_M_freshText s m args below meth c D A 2 0 0 (MQ below (QV D K A (cl_M K q o_v)) args s 0 0 A) ([((q 0), ob 9 [.int (M_thrown v2), .ref (q 1), .int (M_taped (M_tp v2)), .ref (q 2), .ref (q 3), .ref (q 4), .ref (q 5), .ref (q 6), .ref (q 7), .ref (q 8), .ref (q 9), .ref (q 10), .ref (q 11), .ref (q 12), .ref (q 13), .ref (q 14), .int (M_lines (M_rd v2)), .int (M_size (M_rd v2)), .int (M_at (M_rd v2)), .int (M_place (M_rd v2)), .int (M_sort (M_rd v2)), .int (M_value (M_rd v2)), .int (M_fault (M_rd v2)), .int (M_faultPlace (M_rd v2)), .int (M_lastFault (M_lf v2)), .int (M_lastPlace (M_lf v2)), .ref (q 15), .ref (q 16), .ref (q 17), .ref (q 18), .int (M_hasImage (M_im v2)), .int (M_spanNow (M_rn v2)), .ref (q 19), .int (M_placeThen (M_rn v2)), .int (M_alonePlace (M_al v2)), .int (M_aloneSteps (M_al v2)), .int (M_aloneOut (M_al v2)), .ref (q 20), .ref (q 21), .ref (q 22), .ref (q 23), .int (M_shotAlarm (M_ex v2)), .int (M_drawn (M_ex v2))]), ((q 1), aI K 700 (M_tape (M_tp v2))), ((q 2), aI K 20 (M_number (M_cd v2))), ((q 3), aZ K 5 (M_isTold (M_rd v2))), ((q 4), aI K 80 (M_codeSort (M_cd v2))), ((q 5), aI K 80 (M_codeA (M_cd v2))), ((q 6), aI K 80 (M_codeB (M_cd v2))), ((q 7), aI K 80 (M_codeC (M_cd v2))), ((q 8), aI K 80 (M_codeName (M_cd v2))), ((q 9), aI K 80 (M_codePlace (M_cd v2))), ((q 10), aI K 80 (M_codeTo (M_cd v2))), ((q 11), aI K 280 (M_labelName (M_cd v2))), ((q 12), aI K 280 (M_labelAt (M_cd v2))), ((q 13), aI K 64 (M_data (M_cd v2))), ((q 14), aZ K 32 (M_hasData (M_rd v2))), ((q 15), aI K 314 (M_s (M_rn v2))), ((q 16), aI K 314 (M_aside (M_ex v2))), ((q 17), aI K 314 (M_further (M_ex v2))), ((q 18), aI K 314 (M_image (M_im v2))), ((q 19), aI K 3 (M_sizeNow (M_rn v2))), ((q 20), aI K 8 (M_aloneRegister (M_al v2))), ((q 21), aI K 4 (M_aloneReal (M_al v2))), ((q 22), aI K 32 (M_aloneMemory (M_al v2))), ((q 23), aI K 999 (M_aloneOutput (M_al v2)))]) ([(0, .ref (q 0)), (1, .int x1)]) ([]) 2 := by
    intro k2_20 hk2_20 n2
    induction n2 with
    | zero => intro x1 v2 hf; exact (nomatch (show (none : Option (T_M)) = some _ from hf))
    | succ n2 ih2 =>
      intro x1 v2 hf
      rw [f_M_freshText_L2] at hf
      refine r_iload_n (pc := 2) cx dX10_freshText_2 1 rfl ?_
      refine r_bipush (pc := 3) cx dX10_freshText_3 bp_10 ?_
      refine r_icmp_ge (pc := 5) (tgt := 20) cx dX10_freshText_5 (by decide) (fun h4 => ?_) (fun h4 => ?_)
      · have hf := ifp h4 hf
        refine r_loc (loc' := [(0, .ref (q 0))]) [0] rfl ?_
        exact hk2_20 _ hf
      · have hf := ifn h4 hf
        refine r_aload_n (pc := 8) cx dX10_freshText_8 0 rfl ?_
        refine r_iload_n (pc := 9) cx dX10_freshText_9 1 rfl ?_
        refine r_iconst (pc := 10) cx dX10_freshText_10 ic_0 ?_
        obtain ⟨v5, hc6, hf⟩ := bd_of hf
        refine r_Vv (pc := 11) (ws' := [((q 0), ob 9 [.int (M_thrown v5), .ref (q 1), .int (M_taped (M_tp v5)), .ref (q 2), .ref (q 3), .ref (q 4), .ref (q 5), .ref (q 6), .ref (q 7), .ref (q 8), .ref (q 9), .ref (q 10), .ref (q 11), .ref (q 12), .ref (q 13), .ref (q 14), .int (M_lines (M_rd v5)), .int (M_size (M_rd v5)), .int (M_at (M_rd v5)), .int (M_place (M_rd v5)), .int (M_sort (M_rd v5)), .int (M_value (M_rd v5)), .int (M_fault (M_rd v5)), .int (M_faultPlace (M_rd v5)), .int (M_lastFault (M_lf v5)), .int (M_lastPlace (M_lf v5)), .ref (q 15), .ref (q 16), .ref (q 17), .ref (q 18), .int (M_hasImage (M_im v5)), .int (M_spanNow (M_rn v5)), .ref (q 19), .int (M_placeThen (M_rn v5)), .int (M_alonePlace (M_al v5)), .int (M_aloneSteps (M_al v5)), .int (M_aloneOut (M_al v5)), .ref (q 20), .ref (q 21), .ref (q 22), .ref (q 23), .int (M_shotAlarm (M_ex v5)), .int (M_drawn (M_ex v5))]), ((q 1), aI K 700 (M_tape (M_tp v5))), ((q 2), aI K 20 (M_number (M_cd v5))), ((q 3), aZ K 5 (M_isTold (M_rd v5))), ((q 4), aI K 80 (M_codeSort (M_cd v5))), ((q 5), aI K 80 (M_codeA (M_cd v5))), ((q 6), aI K 80 (M_codeB (M_cd v5))), ((q 7), aI K 80 (M_codeC (M_cd v5))), ((q 8), aI K 80 (M_codeName (M_cd v5))), ((q 9), aI K 80 (M_codePlace (M_cd v5))), ((q 10), aI K 80 (M_codeTo (M_cd v5))), ((q 11), aI K 280 (M_labelName (M_cd v5))), ((q 12), aI K 280 (M_labelAt (M_cd v5))), ((q 13), aI K 64 (M_data (M_cd v5))), ((q 14), aZ K 32 (M_hasData (M_rd v5))), ((q 15), aI K 314 (M_s (M_rn v5))), ((q 16), aI K 314 (M_aside (M_ex v5))), ((q 17), aI K 314 (M_further (M_ex v5))), ((q 18), aI K 314 (M_image (M_im v5))), ((q 19), aI K 3 (M_sizeNow (M_rn v5))), ((q 20), aI K 8 (M_aloneRegister (M_al v5))), ((q 21), aI K 4 (M_aloneReal (M_al v5))), ((q 22), aI K 32 (M_aloneMemory (M_al v5))), ((q 23), aI K 999 (M_aloneOutput (M_al v5)))]) cx [.int x1, .int (0 : Int32)] [] [0, 1, 2, 3, 4, 5, 6, 7, 8, 9, 10, 11, 12, 13, 14, 15, 16, 17, 18, 19, 20, 21, 22, 23] (m_M_reads l D K q v2 x1 (0 : Int32) hc6) yv_X10_reads wd_1300 ⟨rfl, rfl⟩ (by decide) rfl rfl rfl (by decide) 0 rfl rfl rfl (Nat.le_of_ble_eq_true rfl) dX10_freshText_11 ?_
        obtain ⟨x7, ex7, hf⟩ := nm_of hf
        refine r_iinc (pc := 14) (loc' := [(1, .int x7), (0, .ref (q 0))]) (v := x7) cx dX10_freshText_14 1 rfl ((congrArg (fun z => x1 + z) ic_1).trans ex7.symm) (by decide) rfl ?_
        refine r_goto (pc := 17) (tgt := 2) cx dX10_freshText_17 (by decide) ?_
        refine r_loc (loc' := [(0, .ref (q 0)), (1, .int x7)]) [1, 0] rfl ?_
        exact ih2 _ _ hf
  refine r_loc (loc' := [(0, .ref (q 0)), (1, .int (0 : Int32))]) [1, 0] rfl ?_
  refine hL2 _ (fun v3 hf => ?_) _ _ _ hf
  refine r_aload_n (pc := 20) cx dX10_freshText_20 0 rfl ?_
  refine r_iconst (pc := 21) cx dX10_freshText_21 ic_0 ?_
  refine r_bipush (pc := 22) cx dX10_freshText_22 bp_8 ?_
  obtain ⟨v8, hc9, hf⟩ := bd_of hf
  refine r_Vv (pc := 24) (ws' := [((q 0), ob 9 [.int (M_thrown v8), .ref (q 1), .int (M_taped (M_tp v8)), .ref (q 2), .ref (q 3), .ref (q 4), .ref (q 5), .ref (q 6), .ref (q 7), .ref (q 8), .ref (q 9), .ref (q 10), .ref (q 11), .ref (q 12), .ref (q 13), .ref (q 14), .int (M_lines (M_rd v8)), .int (M_size (M_rd v8)), .int (M_at (M_rd v8)), .int (M_place (M_rd v8)), .int (M_sort (M_rd v8)), .int (M_value (M_rd v8)), .int (M_fault (M_rd v8)), .int (M_faultPlace (M_rd v8)), .int (M_lastFault (M_lf v8)), .int (M_lastPlace (M_lf v8)), .ref (q 15), .ref (q 16), .ref (q 17), .ref (q 18), .int (M_hasImage (M_im v8)), .int (M_spanNow (M_rn v8)), .ref (q 19), .int (M_placeThen (M_rn v8)), .int (M_alonePlace (M_al v8)), .int (M_aloneSteps (M_al v8)), .int (M_aloneOut (M_al v8)), .ref (q 20), .ref (q 21), .ref (q 22), .ref (q 23), .int (M_shotAlarm (M_ex v8)), .int (M_drawn (M_ex v8))]), ((q 1), aI K 700 (M_tape (M_tp v8))), ((q 2), aI K 20 (M_number (M_cd v8))), ((q 3), aZ K 5 (M_isTold (M_rd v8))), ((q 4), aI K 80 (M_codeSort (M_cd v8))), ((q 5), aI K 80 (M_codeA (M_cd v8))), ((q 6), aI K 80 (M_codeB (M_cd v8))), ((q 7), aI K 80 (M_codeC (M_cd v8))), ((q 8), aI K 80 (M_codeName (M_cd v8))), ((q 9), aI K 80 (M_codePlace (M_cd v8))), ((q 10), aI K 80 (M_codeTo (M_cd v8))), ((q 11), aI K 280 (M_labelName (M_cd v8))), ((q 12), aI K 280 (M_labelAt (M_cd v8))), ((q 13), aI K 64 (M_data (M_cd v8))), ((q 14), aZ K 32 (M_hasData (M_rd v8))), ((q 15), aI K 314 (M_s (M_rn v8))), ((q 16), aI K 314 (M_aside (M_ex v8))), ((q 17), aI K 314 (M_further (M_ex v8))), ((q 18), aI K 314 (M_image (M_im v8))), ((q 19), aI K 3 (M_sizeNow (M_rn v8))), ((q 20), aI K 8 (M_aloneRegister (M_al v8))), ((q 21), aI K 4 (M_aloneReal (M_al v8))), ((q 22), aI K 32 (M_aloneMemory (M_al v8))), ((q 23), aI K 999 (M_aloneOutput (M_al v8)))]) cx [.int (0 : Int32), .int (8 : Int32)] [] [0, 1, 2, 3, 4, 5, 6, 7, 8, 9, 10, 11, 12, 13, 14, 15, 16, 17, 18, 19, 20, 21, 22, 23] (m_M_reads l D K q v3 (0 : Int32) (8 : Int32) hc9) yv_X10_reads wd_1300 ⟨rfl, rfl⟩ (by decide) rfl rfl rfl (by decide) 0 rfl rfl rfl (Nat.le_of_ble_eq_true rfl) dX10_freshText_24 ?_
  refine r_aload_n (pc := 27) cx dX10_freshText_27 0 rfl ?_
  refine r_iconst (pc := 28) cx dX10_freshText_28 ic_1 ?_
  refine r_iconst (pc := 29) cx dX10_freshText_29 ic_1 ?_
  obtain ⟨v10, hc11, hf⟩ := bd_of hf
  refine r_Vv (pc := 30) (ws' := [((q 0), ob 9 [.int (M_thrown v10), .ref (q 1), .int (M_taped (M_tp v10)), .ref (q 2), .ref (q 3), .ref (q 4), .ref (q 5), .ref (q 6), .ref (q 7), .ref (q 8), .ref (q 9), .ref (q 10), .ref (q 11), .ref (q 12), .ref (q 13), .ref (q 14), .int (M_lines (M_rd v10)), .int (M_size (M_rd v10)), .int (M_at (M_rd v10)), .int (M_place (M_rd v10)), .int (M_sort (M_rd v10)), .int (M_value (M_rd v10)), .int (M_fault (M_rd v10)), .int (M_faultPlace (M_rd v10)), .int (M_lastFault (M_lf v10)), .int (M_lastPlace (M_lf v10)), .ref (q 15), .ref (q 16), .ref (q 17), .ref (q 18), .int (M_hasImage (M_im v10)), .int (M_spanNow (M_rn v10)), .ref (q 19), .int (M_placeThen (M_rn v10)), .int (M_alonePlace (M_al v10)), .int (M_aloneSteps (M_al v10)), .int (M_aloneOut (M_al v10)), .ref (q 20), .ref (q 21), .ref (q 22), .ref (q 23), .int (M_shotAlarm (M_ex v10)), .int (M_drawn (M_ex v10))]), ((q 1), aI K 700 (M_tape (M_tp v10))), ((q 2), aI K 20 (M_number (M_cd v10))), ((q 3), aZ K 5 (M_isTold (M_rd v10))), ((q 4), aI K 80 (M_codeSort (M_cd v10))), ((q 5), aI K 80 (M_codeA (M_cd v10))), ((q 6), aI K 80 (M_codeB (M_cd v10))), ((q 7), aI K 80 (M_codeC (M_cd v10))), ((q 8), aI K 80 (M_codeName (M_cd v10))), ((q 9), aI K 80 (M_codePlace (M_cd v10))), ((q 10), aI K 80 (M_codeTo (M_cd v10))), ((q 11), aI K 280 (M_labelName (M_cd v10))), ((q 12), aI K 280 (M_labelAt (M_cd v10))), ((q 13), aI K 64 (M_data (M_cd v10))), ((q 14), aZ K 32 (M_hasData (M_rd v10))), ((q 15), aI K 314 (M_s (M_rn v10))), ((q 16), aI K 314 (M_aside (M_ex v10))), ((q 17), aI K 314 (M_further (M_ex v10))), ((q 18), aI K 314 (M_image (M_im v10))), ((q 19), aI K 3 (M_sizeNow (M_rn v10))), ((q 20), aI K 8 (M_aloneRegister (M_al v10))), ((q 21), aI K 4 (M_aloneReal (M_al v10))), ((q 22), aI K 32 (M_aloneMemory (M_al v10))), ((q 23), aI K 999 (M_aloneOutput (M_al v10)))]) cx [.int (1 : Int32), .int (1 : Int32)] [] [0, 1, 2, 3, 4, 5, 6, 7, 8, 9, 10, 11, 12, 13, 14, 15, 16, 17, 18, 19, 20, 21, 22, 23] (m_M_reads l D K q v8 (1 : Int32) (1 : Int32) hc11) yv_X10_reads wd_1300 ⟨rfl, rfl⟩ (by decide) rfl rfl rfl (by decide) 0 rfl rfl rfl (Nat.le_of_ble_eq_true rfl) dX10_freshText_30 ?_
  refine r_aload_n (pc := 33) cx dX10_freshText_33 0 rfl ?_
  refine r_iconst (pc := 34) cx dX10_freshText_34 ic_2 ?_
  refine r_iconst (pc := 35) cx dX10_freshText_35 ic_4 ?_
  obtain ⟨v12, hc13, hf⟩ := bd_of hf
  refine r_Vv (pc := 36) (ws' := [((q 0), ob 9 [.int (M_thrown v12), .ref (q 1), .int (M_taped (M_tp v12)), .ref (q 2), .ref (q 3), .ref (q 4), .ref (q 5), .ref (q 6), .ref (q 7), .ref (q 8), .ref (q 9), .ref (q 10), .ref (q 11), .ref (q 12), .ref (q 13), .ref (q 14), .int (M_lines (M_rd v12)), .int (M_size (M_rd v12)), .int (M_at (M_rd v12)), .int (M_place (M_rd v12)), .int (M_sort (M_rd v12)), .int (M_value (M_rd v12)), .int (M_fault (M_rd v12)), .int (M_faultPlace (M_rd v12)), .int (M_lastFault (M_lf v12)), .int (M_lastPlace (M_lf v12)), .ref (q 15), .ref (q 16), .ref (q 17), .ref (q 18), .int (M_hasImage (M_im v12)), .int (M_spanNow (M_rn v12)), .ref (q 19), .int (M_placeThen (M_rn v12)), .int (M_alonePlace (M_al v12)), .int (M_aloneSteps (M_al v12)), .int (M_aloneOut (M_al v12)), .ref (q 20), .ref (q 21), .ref (q 22), .ref (q 23), .int (M_shotAlarm (M_ex v12)), .int (M_drawn (M_ex v12))]), ((q 1), aI K 700 (M_tape (M_tp v12))), ((q 2), aI K 20 (M_number (M_cd v12))), ((q 3), aZ K 5 (M_isTold (M_rd v12))), ((q 4), aI K 80 (M_codeSort (M_cd v12))), ((q 5), aI K 80 (M_codeA (M_cd v12))), ((q 6), aI K 80 (M_codeB (M_cd v12))), ((q 7), aI K 80 (M_codeC (M_cd v12))), ((q 8), aI K 80 (M_codeName (M_cd v12))), ((q 9), aI K 80 (M_codePlace (M_cd v12))), ((q 10), aI K 80 (M_codeTo (M_cd v12))), ((q 11), aI K 280 (M_labelName (M_cd v12))), ((q 12), aI K 280 (M_labelAt (M_cd v12))), ((q 13), aI K 64 (M_data (M_cd v12))), ((q 14), aZ K 32 (M_hasData (M_rd v12))), ((q 15), aI K 314 (M_s (M_rn v12))), ((q 16), aI K 314 (M_aside (M_ex v12))), ((q 17), aI K 314 (M_further (M_ex v12))), ((q 18), aI K 314 (M_image (M_im v12))), ((q 19), aI K 3 (M_sizeNow (M_rn v12))), ((q 20), aI K 8 (M_aloneRegister (M_al v12))), ((q 21), aI K 4 (M_aloneReal (M_al v12))), ((q 22), aI K 32 (M_aloneMemory (M_al v12))), ((q 23), aI K 999 (M_aloneOutput (M_al v12)))]) cx [.int (2 : Int32), .int (4 : Int32)] [] [0, 1, 2, 3, 4, 5, 6, 7, 8, 9, 10, 11, 12, 13, 14, 15, 16, 17, 18, 19, 20, 21, 22, 23] (m_M_reads l D K q v10 (2 : Int32) (4 : Int32) hc13) yv_X10_reads wd_1300 ⟨rfl, rfl⟩ (by decide) rfl rfl rfl (by decide) 0 rfl rfl rfl (Nat.le_of_ble_eq_true rfl) dX10_freshText_36 ?_
  refine r_iconst (pc := 39) cx dX10_freshText_39 ic_0 ?_
  refine r_istore_n (pc := 40) (loc' := [(1, .int (0 : Int32)), (0, .ref (q 0))]) cx dX10_freshText_40 rfl (by decide) rfl ?_
  have hL41 : ∀ (k41_60 : T_M → Option (T_M)), (∀ (v16 : T_M), k41_60 v16 = some o_v → WW p l e rm_M_freshText s m args below meth c D A 2 0 0 (MQ below (QV D K A (cl_M K q o_v)) args s 0 0 A) ([((q 0), ob 9 [.int (M_thrown v16), .ref (q 1), .int (M_taped (M_tp v16)), .ref (q 2), .ref (q 3), .ref (q 4), .ref (q 5), .ref (q 6), .ref (q 7), .ref (q 8), .ref (q 9), .ref (q 10), .ref (q 11), .ref (q 12), .ref (q 13), .ref (q 14), .int (M_lines (M_rd v16)), .int (M_size (M_rd v16)), .int (M_at (M_rd v16)), .int (M_place (M_rd v16)), .int (M_sort (M_rd v16)), .int (M_value (M_rd v16)), .int (M_fault (M_rd v16)), .int (M_faultPlace (M_rd v16)), .int (M_lastFault (M_lf v16)), .int (M_lastPlace (M_lf v16)), .ref (q 15), .ref (q 16), .ref (q 17), .ref (q 18), .int (M_hasImage (M_im v16)), .int (M_spanNow (M_rn v16)), .ref (q 19), .int (M_placeThen (M_rn v16)), .int (M_alonePlace (M_al v16)), .int (M_aloneSteps (M_al v16)), .int (M_aloneOut (M_al v16)), .ref (q 20), .ref (q 21), .ref (q 22), .ref (q 23), .int (M_shotAlarm (M_ex v16)), .int (M_drawn (M_ex v16))]), ((q 1), aI K 700 (M_tape (M_tp v16))), ((q 2), aI K 20 (M_number (M_cd v16))), ((q 3), aZ K 5 (M_isTold (M_rd v16))), ((q 4), aI K 80 (M_codeSort (M_cd v16))), ((q 5), aI K 80 (M_codeA (M_cd v16))), ((q 6), aI K 80 (M_codeB (M_cd v16))), ((q 7), aI K 80 (M_codeC (M_cd v16))), ((q 8), aI K 80 (M_codeName (M_cd v16))), ((q 9), aI K 80 (M_codePlace (M_cd v16))), ((q 10), aI K 80 (M_codeTo (M_cd v16))), ((q 11), aI K 280 (M_labelName (M_cd v16))), ((q 12), aI K 280 (M_labelAt (M_cd v16))), ((q 13), aI K 64 (M_data (M_cd v16))), ((q 14), aZ K 32 (M_hasData (M_rd v16))), ((q 15), aI K 314 (M_s (M_rn v16))), ((q 16), aI K 314 (M_aside (M_ex v16))), ((q 17), aI K 314 (M_further (M_ex v16))), ((q 18), aI K 314 (M_image (M_im v16))), ((q 19), aI K 3 (M_sizeNow (M_rn v16))), ((q 20), aI K 8 (M_aloneRegister (M_al v16))), ((q 21), aI K 4 (M_aloneReal (M_al v16))), ((q 22), aI K 32 (M_aloneMemory (M_al v16))), ((q 23), aI K 999 (M_aloneOutput (M_al v16)))]) ([(0, .ref (q 0))]) ([]) 60) → ∀ (n41 : Nat) (x14 : Int32) (v15 : T_M), f_M_freshText_L41 k41_60 n41 x14 v15 = some o_v → WW p l e rm_M_freshText s m args below meth c D A 2 0 0 (MQ below (QV D K A (cl_M K q o_v)) args s 0 0 A) ([((q 0), ob 9 [.int (M_thrown v15), .ref (q 1), .int (M_taped (M_tp v15)), .ref (q 2), .ref (q 3), .ref (q 4), .ref (q 5), .ref (q 6), .ref (q 7), .ref (q 8), .ref (q 9), .ref (q 10), .ref (q 11), .ref (q 12), .ref (q 13), .ref (q 14), .int (M_lines (M_rd v15)), .int (M_size (M_rd v15)), .int (M_at (M_rd v15)), .int (M_place (M_rd v15)), .int (M_sort (M_rd v15)), .int (M_value (M_rd v15)), .int (M_fault (M_rd v15)), .int (M_faultPlace (M_rd v15)), .int (M_lastFault (M_lf v15)), .int (M_lastPlace (M_lf v15)), .ref (q 15), .ref (q 16), .ref (q 17), .ref (q 18), .int (M_hasImage (M_im v15)), .int (M_spanNow (M_rn v15)), .ref (q 19), .int (M_placeThen (M_rn v15)), .int (M_alonePlace (M_al v15)), .int (M_aloneSteps (M_al v15)), .int (M_aloneOut (M_al v15)), .ref (q 20), .ref (q 21), .ref (q 22), .ref (q 23), .int (M_shotAlarm (M_ex v15)), .int (M_drawn (M_ex v15))]), ((q 1), aI K 700 (M_tape (M_tp v15))), ((q 2), aI K 20 (M_number (M_cd v15))), ((q 3), aZ K 5 (M_isTold (M_rd v15))), ((q 4), aI K 80 (M_codeSort (M_cd v15))), ((q 5), aI K 80 (M_codeA (M_cd v15))), ((q 6), aI K 80 (M_codeB (M_cd v15))), ((q 7), aI K 80 (M_codeC (M_cd v15))), ((q 8), aI K 80 (M_codeName (M_cd v15))), ((q 9), aI K 80 (M_codePlace (M_cd v15))), ((q 10), aI K 80 (M_codeTo (M_cd v15))), ((q 11), aI K 280 (M_labelName (M_cd v15))), ((q 12), aI K 280 (M_labelAt (M_cd v15))), ((q 13), aI K 64 (M_data (M_cd v15))), ((q 14), aZ K 32 (M_hasData (M_rd v15))), ((q 15), aI K 314 (M_s (M_rn v15))), ((q 16), aI K 314 (M_aside (M_ex v15))), ((q 17), aI K 314 (M_further (M_ex v15))), ((q 18), aI K 314 (M_image (M_im v15))), ((q 19), aI K 3 (M_sizeNow (M_rn v15))), ((q 20), aI K 8 (M_aloneRegister (M_al v15))), ((q 21), aI K 4 (M_aloneReal (M_al v15))), ((q 22), aI K 32 (M_aloneMemory (M_al v15))), ((q 23), aI K 999 (M_aloneOutput (M_al v15)))]) ([(0, .ref (q 0)), (1, .int x14)]) ([]) 41 := by
    intro k41_60 hk41_60 n41
    induction n41 with
    | zero => intro x14 v15 hf; exact (nomatch (show (none : Option (T_M)) = some _ from hf))
    | succ n41 ih41 =>
      intro x14 v15 hf
      rw [f_M_freshText_L41] at hf
      refine r_iload_n (pc := 41) cx dX10_freshText_41 1 rfl ?_
      refine r_iconst (pc := 42) cx dX10_freshText_42 ic_3 ?_
      refine r_icmp_ge (pc := 43) (tgt := 60) cx dX10_freshText_43 (by decide) (fun h17 => ?_) (fun h17 => ?_)
      · have hf := ifp h17 hf
        refine r_loc (loc' := [(0, .ref (q 0))]) [0] rfl ?_
        exact hk41_60 _ hf
      · have hf := ifn h17 hf
        refine r_aload_n (pc := 46) cx dX10_freshText_46 0 rfl ?_
        refine r_iconst (pc := 47) cx dX10_freshText_47 ic_3 ?_
        refine r_iload_n (pc := 48) cx dX10_freshText_48 1 rfl ?_
        refine r_iadd (pc := 49) cx dX10_freshText_49 ?_
        refine r_iconst (pc := 50) cx dX10_freshText_50 ic_4 ?_
        obtain ⟨v18, hc19, hf⟩ := bd_of hf
        refine r_Vv (pc := 51) (ws' := [((q 0), ob 9 [.int (M_thrown v18), .ref (q 1), .int (M_taped (M_tp v18)), .ref (q 2), .ref (q 3), .ref (q 4), .ref (q 5), .ref (q 6), .ref (q 7), .ref (q 8), .ref (q 9), .ref (q 10), .ref (q 11), .ref (q 12), .ref (q 13), .ref (q 14), .int (M_lines (M_rd v18)), .int (M_size (M_rd v18)), .int (M_at (M_rd v18)), .int (M_place (M_rd v18)), .int (M_sort (M_rd v18)), .int (M_value (M_rd v18)), .int (M_fault (M_rd v18)), .int (M_faultPlace (M_rd v18)), .int (M_lastFault (M_lf v18)), .int (M_lastPlace (M_lf v18)), .ref (q 15), .ref (q 16), .ref (q 17), .ref (q 18), .int (M_hasImage (M_im v18)), .int (M_spanNow (M_rn v18)), .ref (q 19), .int (M_placeThen (M_rn v18)), .int (M_alonePlace (M_al v18)), .int (M_aloneSteps (M_al v18)), .int (M_aloneOut (M_al v18)), .ref (q 20), .ref (q 21), .ref (q 22), .ref (q 23), .int (M_shotAlarm (M_ex v18)), .int (M_drawn (M_ex v18))]), ((q 1), aI K 700 (M_tape (M_tp v18))), ((q 2), aI K 20 (M_number (M_cd v18))), ((q 3), aZ K 5 (M_isTold (M_rd v18))), ((q 4), aI K 80 (M_codeSort (M_cd v18))), ((q 5), aI K 80 (M_codeA (M_cd v18))), ((q 6), aI K 80 (M_codeB (M_cd v18))), ((q 7), aI K 80 (M_codeC (M_cd v18))), ((q 8), aI K 80 (M_codeName (M_cd v18))), ((q 9), aI K 80 (M_codePlace (M_cd v18))), ((q 10), aI K 80 (M_codeTo (M_cd v18))), ((q 11), aI K 280 (M_labelName (M_cd v18))), ((q 12), aI K 280 (M_labelAt (M_cd v18))), ((q 13), aI K 64 (M_data (M_cd v18))), ((q 14), aZ K 32 (M_hasData (M_rd v18))), ((q 15), aI K 314 (M_s (M_rn v18))), ((q 16), aI K 314 (M_aside (M_ex v18))), ((q 17), aI K 314 (M_further (M_ex v18))), ((q 18), aI K 314 (M_image (M_im v18))), ((q 19), aI K 3 (M_sizeNow (M_rn v18))), ((q 20), aI K 8 (M_aloneRegister (M_al v18))), ((q 21), aI K 4 (M_aloneReal (M_al v18))), ((q 22), aI K 32 (M_aloneMemory (M_al v18))), ((q 23), aI K 999 (M_aloneOutput (M_al v18)))]) cx [.int ((3 : Int32) + x14), .int (4 : Int32)] [] [0, 1, 2, 3, 4, 5, 6, 7, 8, 9, 10, 11, 12, 13, 14, 15, 16, 17, 18, 19, 20, 21, 22, 23] (m_M_reads l D K q v15 ((3 : Int32) + x14) (4 : Int32) hc19) yv_X10_reads wd_1300 ⟨rfl, rfl⟩ (by decide) rfl rfl rfl (by decide) 0 rfl rfl rfl (Nat.le_of_ble_eq_true rfl) dX10_freshText_51 ?_
        obtain ⟨x20, ex20, hf⟩ := nm_of hf
        refine r_iinc (pc := 54) (loc' := [(1, .int x20), (0, .ref (q 0))]) (v := x20) cx dX10_freshText_54 1 rfl ((congrArg (fun z => x14 + z) ic_1).trans ex20.symm) (by decide) rfl ?_
        refine r_goto (pc := 57) (tgt := 41) cx dX10_freshText_57 (by decide) ?_
        refine r_loc (loc' := [(0, .ref (q 0)), (1, .int x20)]) [1, 0] rfl ?_
        exact ih41 _ _ hf
  refine r_loc (loc' := [(0, .ref (q 0)), (1, .int (0 : Int32))]) [1, 0] rfl ?_
  refine hL41 _ (fun v16 hf => ?_) _ _ _ hf
  refine r_aload_n (pc := 60) cx dX10_freshText_60 0 rfl ?_
  refine r_bipush (pc := 61) cx dX10_freshText_61 bp_6 ?_
  refine r_iconst (pc := 63) cx dX10_freshText_63 ic_3 ?_
  obtain ⟨v21, hc22, hf⟩ := bd_of hf
  refine r_Vv (pc := 64) (ws' := [((q 0), ob 9 [.int (M_thrown v21), .ref (q 1), .int (M_taped (M_tp v21)), .ref (q 2), .ref (q 3), .ref (q 4), .ref (q 5), .ref (q 6), .ref (q 7), .ref (q 8), .ref (q 9), .ref (q 10), .ref (q 11), .ref (q 12), .ref (q 13), .ref (q 14), .int (M_lines (M_rd v21)), .int (M_size (M_rd v21)), .int (M_at (M_rd v21)), .int (M_place (M_rd v21)), .int (M_sort (M_rd v21)), .int (M_value (M_rd v21)), .int (M_fault (M_rd v21)), .int (M_faultPlace (M_rd v21)), .int (M_lastFault (M_lf v21)), .int (M_lastPlace (M_lf v21)), .ref (q 15), .ref (q 16), .ref (q 17), .ref (q 18), .int (M_hasImage (M_im v21)), .int (M_spanNow (M_rn v21)), .ref (q 19), .int (M_placeThen (M_rn v21)), .int (M_alonePlace (M_al v21)), .int (M_aloneSteps (M_al v21)), .int (M_aloneOut (M_al v21)), .ref (q 20), .ref (q 21), .ref (q 22), .ref (q 23), .int (M_shotAlarm (M_ex v21)), .int (M_drawn (M_ex v21))]), ((q 1), aI K 700 (M_tape (M_tp v21))), ((q 2), aI K 20 (M_number (M_cd v21))), ((q 3), aZ K 5 (M_isTold (M_rd v21))), ((q 4), aI K 80 (M_codeSort (M_cd v21))), ((q 5), aI K 80 (M_codeA (M_cd v21))), ((q 6), aI K 80 (M_codeB (M_cd v21))), ((q 7), aI K 80 (M_codeC (M_cd v21))), ((q 8), aI K 80 (M_codeName (M_cd v21))), ((q 9), aI K 80 (M_codePlace (M_cd v21))), ((q 10), aI K 80 (M_codeTo (M_cd v21))), ((q 11), aI K 280 (M_labelName (M_cd v21))), ((q 12), aI K 280 (M_labelAt (M_cd v21))), ((q 13), aI K 64 (M_data (M_cd v21))), ((q 14), aZ K 32 (M_hasData (M_rd v21))), ((q 15), aI K 314 (M_s (M_rn v21))), ((q 16), aI K 314 (M_aside (M_ex v21))), ((q 17), aI K 314 (M_further (M_ex v21))), ((q 18), aI K 314 (M_image (M_im v21))), ((q 19), aI K 3 (M_sizeNow (M_rn v21))), ((q 20), aI K 8 (M_aloneRegister (M_al v21))), ((q 21), aI K 4 (M_aloneReal (M_al v21))), ((q 22), aI K 32 (M_aloneMemory (M_al v21))), ((q 23), aI K 999 (M_aloneOutput (M_al v21)))]) cx [.int (6 : Int32), .int (3 : Int32)] [] [0, 1, 2, 3, 4, 5, 6, 7, 8, 9, 10, 11, 12, 13, 14, 15, 16, 17, 18, 19, 20, 21, 22, 23] (m_M_reads l D K q v16 (6 : Int32) (3 : Int32) hc22) yv_X10_reads wd_1300 ⟨rfl, rfl⟩ (by decide) rfl rfl rfl (by decide) 0 rfl rfl rfl (Nat.le_of_ble_eq_true rfl) dX10_freshText_64 ?_
  refine r_iconst (pc := 67) cx dX10_freshText_67 ic_0 ?_
  refine r_istore_n (pc := 68) (loc' := [(1, .int (0 : Int32)), (0, .ref (q 0))]) cx dX10_freshText_68 rfl (by decide) rfl ?_
  have hL69 : ∀ (k69_87 : (Nat → Int32) → Option (T_M)), (∀ (f25 : (Nat → Int32)), k69_87 f25 = some o_v → WW p l e rm_M_freshText s m args below meth c D A 2 0 0 (MQ below (QV D K A (cl_M K q o_v)) args s 0 0 A) ([((q 0), ob 9 [.int (M_thrown v21), .ref (q 1), .int (M_taped (M_tp v21)), .ref (q 2), .ref (q 3), .ref (q 4), .ref (q 5), .ref (q 6), .ref (q 7), .ref (q 8), .ref (q 9), .ref (q 10), .ref (q 11), .ref (q 12), .ref (q 13), .ref (q 14), .int (M_lines (M_rd v21)), .int (M_size (M_rd v21)), .int (M_at (M_rd v21)), .int (M_place (M_rd v21)), .int (M_sort (M_rd v21)), .int (M_value (M_rd v21)), .int (M_fault (M_rd v21)), .int (M_faultPlace (M_rd v21)), .int (M_lastFault (M_lf v21)), .int (M_lastPlace (M_lf v21)), .ref (q 15), .ref (q 16), .ref (q 17), .ref (q 18), .int (M_hasImage (M_im v21)), .int (M_spanNow (M_rn v21)), .ref (q 19), .int (M_placeThen (M_rn v21)), .int (M_alonePlace (M_al v21)), .int (M_aloneSteps (M_al v21)), .int (M_aloneOut (M_al v21)), .ref (q 20), .ref (q 21), .ref (q 22), .ref (q 23), .int (M_shotAlarm (M_ex v21)), .int (M_drawn (M_ex v21))]), ((q 1), aI K 700 (M_tape (M_tp v21))), ((q 2), aI K 20 (M_number (M_cd v21))), ((q 3), aZ K 5 f25), ((q 4), aI K 80 (M_codeSort (M_cd v21))), ((q 5), aI K 80 (M_codeA (M_cd v21))), ((q 6), aI K 80 (M_codeB (M_cd v21))), ((q 7), aI K 80 (M_codeC (M_cd v21))), ((q 8), aI K 80 (M_codeName (M_cd v21))), ((q 9), aI K 80 (M_codePlace (M_cd v21))), ((q 10), aI K 80 (M_codeTo (M_cd v21))), ((q 11), aI K 280 (M_labelName (M_cd v21))), ((q 12), aI K 280 (M_labelAt (M_cd v21))), ((q 13), aI K 64 (M_data (M_cd v21))), ((q 14), aZ K 32 (M_hasData (M_rd v21))), ((q 15), aI K 314 (M_s (M_rn v21))), ((q 16), aI K 314 (M_aside (M_ex v21))), ((q 17), aI K 314 (M_further (M_ex v21))), ((q 18), aI K 314 (M_image (M_im v21))), ((q 19), aI K 3 (M_sizeNow (M_rn v21))), ((q 20), aI K 8 (M_aloneRegister (M_al v21))), ((q 21), aI K 4 (M_aloneReal (M_al v21))), ((q 22), aI K 32 (M_aloneMemory (M_al v21))), ((q 23), aI K 999 (M_aloneOutput (M_al v21)))]) ([(0, .ref (q 0))]) ([]) 87) → ∀ (n69 : Nat) (x23 : Int32) (f24 : (Nat → Int32)), f_M_freshText_L69 k69_87 n69 x23 f24 = some o_v → WW p l e rm_M_freshText s m args below meth c D A 2 0 0 (MQ below (QV D K A (cl_M K q o_v)) args s 0 0 A) ([((q 0), ob 9 [.int (M_thrown v21), .ref (q 1), .int (M_taped (M_tp v21)), .ref (q 2), .ref (q 3), .ref (q 4), .ref (q 5), .ref (q 6), .ref (q 7), .ref (q 8), .ref (q 9), .ref (q 10), .ref (q 11), .ref (q 12), .ref (q 13), .ref (q 14), .int (M_lines (M_rd v21)), .int (M_size (M_rd v21)), .int (M_at (M_rd v21)), .int (M_place (M_rd v21)), .int (M_sort (M_rd v21)), .int (M_value (M_rd v21)), .int (M_fault (M_rd v21)), .int (M_faultPlace (M_rd v21)), .int (M_lastFault (M_lf v21)), .int (M_lastPlace (M_lf v21)), .ref (q 15), .ref (q 16), .ref (q 17), .ref (q 18), .int (M_hasImage (M_im v21)), .int (M_spanNow (M_rn v21)), .ref (q 19), .int (M_placeThen (M_rn v21)), .int (M_alonePlace (M_al v21)), .int (M_aloneSteps (M_al v21)), .int (M_aloneOut (M_al v21)), .ref (q 20), .ref (q 21), .ref (q 22), .ref (q 23), .int (M_shotAlarm (M_ex v21)), .int (M_drawn (M_ex v21))]), ((q 1), aI K 700 (M_tape (M_tp v21))), ((q 2), aI K 20 (M_number (M_cd v21))), ((q 3), aZ K 5 f24), ((q 4), aI K 80 (M_codeSort (M_cd v21))), ((q 5), aI K 80 (M_codeA (M_cd v21))), ((q 6), aI K 80 (M_codeB (M_cd v21))), ((q 7), aI K 80 (M_codeC (M_cd v21))), ((q 8), aI K 80 (M_codeName (M_cd v21))), ((q 9), aI K 80 (M_codePlace (M_cd v21))), ((q 10), aI K 80 (M_codeTo (M_cd v21))), ((q 11), aI K 280 (M_labelName (M_cd v21))), ((q 12), aI K 280 (M_labelAt (M_cd v21))), ((q 13), aI K 64 (M_data (M_cd v21))), ((q 14), aZ K 32 (M_hasData (M_rd v21))), ((q 15), aI K 314 (M_s (M_rn v21))), ((q 16), aI K 314 (M_aside (M_ex v21))), ((q 17), aI K 314 (M_further (M_ex v21))), ((q 18), aI K 314 (M_image (M_im v21))), ((q 19), aI K 3 (M_sizeNow (M_rn v21))), ((q 20), aI K 8 (M_aloneRegister (M_al v21))), ((q 21), aI K 4 (M_aloneReal (M_al v21))), ((q 22), aI K 32 (M_aloneMemory (M_al v21))), ((q 23), aI K 999 (M_aloneOutput (M_al v21)))]) ([(0, .ref (q 0)), (1, .int x23)]) ([]) 69 := by
    intro k69_87 hk69_87 n69
    induction n69 with
    | zero => intro x23 f24 hf; exact (nomatch (show (none : Option (T_M)) = some _ from hf))
    | succ n69 ih69 =>
      intro x23 f24 hf
      rw [f_M_freshText_L69] at hf
      refine r_iload_n (pc := 69) cx dX10_freshText_69 1 rfl ?_
      refine r_iconst (pc := 70) cx dX10_freshText_70 ic_5 ?_
      refine r_icmp_ge (pc := 71) (tgt := 87) cx dX10_freshText_71 (by decide) (fun h26 => ?_) (fun h26 => ?_)
      · have hf := ifp h26 hf
        refine r_loc (loc' := [(0, .ref (q 0))]) [0] rfl ?_
        exact hk69_87 _ hf
      · have hf := ifn h26 hf
        refine r_aload_n (pc := 74) cx dX10_freshText_74 0 rfl ?_
        refine r_get (pc := 75) cx cf_X10 0 4 rfl (by decide) rfl wd_1320 dX10_freshText_75 ?_
        refine r_iload_n (pc := 78) cx dX10_freshText_78 1 rfl ?_
        refine r_iconst (pc := 79) cx dX10_freshText_79 ic_0 ?_
        obtain ⟨h27, hf⟩ := chk_of hf
        obtain ⟨f28, ef28, hf⟩ := nm_of hf
        refine r_zast (pc := 80) (ws' := [((q 0), ob 9 [.int (M_thrown v21), .ref (q 1), .int (M_taped (M_tp v21)), .ref (q 2), .ref (q 3), .ref (q 4), .ref (q 5), .ref (q 6), .ref (q 7), .ref (q 8), .ref (q 9), .ref (q 10), .ref (q 11), .ref (q 12), .ref (q 13), .ref (q 14), .int (M_lines (M_rd v21)), .int (M_size (M_rd v21)), .int (M_at (M_rd v21)), .int (M_place (M_rd v21)), .int (M_sort (M_rd v21)), .int (M_value (M_rd v21)), .int (M_fault (M_rd v21)), .int (M_faultPlace (M_rd v21)), .int (M_lastFault (M_lf v21)), .int (M_lastPlace (M_lf v21)), .ref (q 15), .ref (q 16), .ref (q 17), .ref (q 18), .int (M_hasImage (M_im v21)), .int (M_spanNow (M_rn v21)), .ref (q 19), .int (M_placeThen (M_rn v21)), .int (M_alonePlace (M_al v21)), .int (M_aloneSteps (M_al v21)), .int (M_aloneOut (M_al v21)), .ref (q 20), .ref (q 21), .ref (q 22), .ref (q 23), .int (M_shotAlarm (M_ex v21)), .int (M_drawn (M_ex v21))]), ((q 1), aI K 700 (M_tape (M_tp v21))), ((q 2), aI K 20 (M_number (M_cd v21))), ((q 3), aZ K 5 f28), ((q 4), aI K 80 (M_codeSort (M_cd v21))), ((q 5), aI K 80 (M_codeA (M_cd v21))), ((q 6), aI K 80 (M_codeB (M_cd v21))), ((q 7), aI K 80 (M_codeC (M_cd v21))), ((q 8), aI K 80 (M_codeName (M_cd v21))), ((q 9), aI K 80 (M_codePlace (M_cd v21))), ((q 10), aI K 80 (M_codeTo (M_cd v21))), ((q 11), aI K 280 (M_labelName (M_cd v21))), ((q 12), aI K 280 (M_labelAt (M_cd v21))), ((q 13), aI K 64 (M_data (M_cd v21))), ((q 14), aZ K 32 (M_hasData (M_rd v21))), ((q 15), aI K 314 (M_s (M_rn v21))), ((q 16), aI K 314 (M_aside (M_ex v21))), ((q 17), aI K 314 (M_further (M_ex v21))), ((q 18), aI K 314 (M_image (M_im v21))), ((q 19), aI K 3 (M_sizeNow (M_rn v21))), ((q 20), aI K 8 (M_aloneRegister (M_al v21))), ((q 21), aI K 4 (M_aloneReal (M_al v21))), ((q 22), aI K 32 (M_aloneMemory (M_al v21))), ((q 23), aI K 999 (M_aloneOutput (M_al v21)))]) cx 3 rfl h27 dX10_freshText_80 ef28 rfl ?_
        obtain ⟨x29, ex29, hf⟩ := nm_of hf
        refine r_iinc (pc := 81) (loc' := [(1, .int x29), (0, .ref (q 0))]) (v := x29) cx dX10_freshText_81 1 rfl ((congrArg (fun z => x23 + z) ic_1).trans ex29.symm) (by decide) rfl ?_
        refine r_goto (pc := 84) (tgt := 69) cx dX10_freshText_84 (by decide) ?_
        refine r_loc (loc' := [(0, .ref (q 0)), (1, .int x29)]) [1, 0] rfl ?_
        exact ih69 _ _ hf
  refine r_loc (loc' := [(0, .ref (q 0)), (1, .int (0 : Int32))]) [1, 0] rfl ?_
  refine hL69 _ (fun f25 hf => ?_) _ _ _ hf
  refine r_iconst (pc := 87) cx dX10_freshText_87 ic_0 ?_
  refine r_istore_n (pc := 88) (loc' := [(1, .int (0 : Int32)), (0, .ref (q 0))]) cx dX10_freshText_88 rfl (by decide) rfl ?_
  have hL89 : ∀ (k89_118 : (Nat → Int32) → (Nat → Int32) → Option (T_M)), (∀ (f33 : (Nat → Int32)) (f34 : (Nat → Int32)), k89_118 f33 f34 = some o_v → WW p l e rm_M_freshText s m args below meth c D A 2 0 0 (MQ below (QV D K A (cl_M K q o_v)) args s 0 0 A) ([((q 0), ob 9 [.int (M_thrown v21), .ref (q 1), .int (M_taped (M_tp v21)), .ref (q 2), .ref (q 3), .ref (q 4), .ref (q 5), .ref (q 6), .ref (q 7), .ref (q 8), .ref (q 9), .ref (q 10), .ref (q 11), .ref (q 12), .ref (q 13), .ref (q 14), .int (M_lines (M_rd v21)), .int (M_size (M_rd v21)), .int (M_at (M_rd v21)), .int (M_place (M_rd v21)), .int (M_sort (M_rd v21)), .int (M_value (M_rd v21)), .int (M_fault (M_rd v21)), .int (M_faultPlace (M_rd v21)), .int (M_lastFault (M_lf v21)), .int (M_lastPlace (M_lf v21)), .ref (q 15), .ref (q 16), .ref (q 17), .ref (q 18), .int (M_hasImage (M_im v21)), .int (M_spanNow (M_rn v21)), .ref (q 19), .int (M_placeThen (M_rn v21)), .int (M_alonePlace (M_al v21)), .int (M_aloneSteps (M_al v21)), .int (M_aloneOut (M_al v21)), .ref (q 20), .ref (q 21), .ref (q 22), .ref (q 23), .int (M_shotAlarm (M_ex v21)), .int (M_drawn (M_ex v21))]), ((q 1), aI K 700 (M_tape (M_tp v21))), ((q 2), aI K 20 (M_number (M_cd v21))), ((q 3), aZ K 5 f25), ((q 4), aI K 80 (M_codeSort (M_cd v21))), ((q 5), aI K 80 (M_codeA (M_cd v21))), ((q 6), aI K 80 (M_codeB (M_cd v21))), ((q 7), aI K 80 (M_codeC (M_cd v21))), ((q 8), aI K 80 (M_codeName (M_cd v21))), ((q 9), aI K 80 (M_codePlace (M_cd v21))), ((q 10), aI K 80 (M_codeTo (M_cd v21))), ((q 11), aI K 280 (M_labelName (M_cd v21))), ((q 12), aI K 280 (M_labelAt (M_cd v21))), ((q 13), aI K 64 f33), ((q 14), aZ K 32 f34), ((q 15), aI K 314 (M_s (M_rn v21))), ((q 16), aI K 314 (M_aside (M_ex v21))), ((q 17), aI K 314 (M_further (M_ex v21))), ((q 18), aI K 314 (M_image (M_im v21))), ((q 19), aI K 3 (M_sizeNow (M_rn v21))), ((q 20), aI K 8 (M_aloneRegister (M_al v21))), ((q 21), aI K 4 (M_aloneReal (M_al v21))), ((q 22), aI K 32 (M_aloneMemory (M_al v21))), ((q 23), aI K 999 (M_aloneOutput (M_al v21)))]) ([]) ([]) 118) → ∀ (n89 : Nat) (x30 : Int32) (f31 : (Nat → Int32)) (f32 : (Nat → Int32)), f_M_freshText_L89 k89_118 n89 x30 f31 f32 = some o_v → WW p l e rm_M_freshText s m args below meth c D A 2 0 0 (MQ below (QV D K A (cl_M K q o_v)) args s 0 0 A) ([((q 0), ob 9 [.int (M_thrown v21), .ref (q 1), .int (M_taped (M_tp v21)), .ref (q 2), .ref (q 3), .ref (q 4), .ref (q 5), .ref (q 6), .ref (q 7), .ref (q 8), .ref (q 9), .ref (q 10), .ref (q 11), .ref (q 12), .ref (q 13), .ref (q 14), .int (M_lines (M_rd v21)), .int (M_size (M_rd v21)), .int (M_at (M_rd v21)), .int (M_place (M_rd v21)), .int (M_sort (M_rd v21)), .int (M_value (M_rd v21)), .int (M_fault (M_rd v21)), .int (M_faultPlace (M_rd v21)), .int (M_lastFault (M_lf v21)), .int (M_lastPlace (M_lf v21)), .ref (q 15), .ref (q 16), .ref (q 17), .ref (q 18), .int (M_hasImage (M_im v21)), .int (M_spanNow (M_rn v21)), .ref (q 19), .int (M_placeThen (M_rn v21)), .int (M_alonePlace (M_al v21)), .int (M_aloneSteps (M_al v21)), .int (M_aloneOut (M_al v21)), .ref (q 20), .ref (q 21), .ref (q 22), .ref (q 23), .int (M_shotAlarm (M_ex v21)), .int (M_drawn (M_ex v21))]), ((q 1), aI K 700 (M_tape (M_tp v21))), ((q 2), aI K 20 (M_number (M_cd v21))), ((q 3), aZ K 5 f25), ((q 4), aI K 80 (M_codeSort (M_cd v21))), ((q 5), aI K 80 (M_codeA (M_cd v21))), ((q 6), aI K 80 (M_codeB (M_cd v21))), ((q 7), aI K 80 (M_codeC (M_cd v21))), ((q 8), aI K 80 (M_codeName (M_cd v21))), ((q 9), aI K 80 (M_codePlace (M_cd v21))), ((q 10), aI K 80 (M_codeTo (M_cd v21))), ((q 11), aI K 280 (M_labelName (M_cd v21))), ((q 12), aI K 280 (M_labelAt (M_cd v21))), ((q 13), aI K 64 f31), ((q 14), aZ K 32 f32), ((q 15), aI K 314 (M_s (M_rn v21))), ((q 16), aI K 314 (M_aside (M_ex v21))), ((q 17), aI K 314 (M_further (M_ex v21))), ((q 18), aI K 314 (M_image (M_im v21))), ((q 19), aI K 3 (M_sizeNow (M_rn v21))), ((q 20), aI K 8 (M_aloneRegister (M_al v21))), ((q 21), aI K 4 (M_aloneReal (M_al v21))), ((q 22), aI K 32 (M_aloneMemory (M_al v21))), ((q 23), aI K 999 (M_aloneOutput (M_al v21)))]) ([(0, .ref (q 0)), (1, .int x30)]) ([]) 89 := by
    intro k89_118 hk89_118 n89
    induction n89 with
    | zero => intro x30 f31 f32 hf; exact (nomatch (show (none : Option (T_M)) = some _ from hf))
    | succ n89 ih89 =>
      intro x30 f31 f32 hf
      rw [f_M_freshText_L89] at hf
      refine r_iload_n (pc := 89) cx dX10_freshText_89 1 rfl ?_
      refine r_bipush (pc := 90) cx dX10_freshText_90 bp_32 ?_
      refine r_icmp_ge (pc := 92) (tgt := 118) cx dX10_freshText_92 (by decide) (fun h35 => ?_) (fun h35 => ?_)
      · have hf := ifp h35 hf
        refine r_loc (loc' := []) [] rfl ?_
        exact hk89_118 _ _ hf
      · have hf := ifn h35 hf
        refine r_aload_n (pc := 95) cx dX10_freshText_95 0 rfl ?_
        refine r_get (pc := 96) cx cf_X10 0 15 rfl (by decide) rfl wd_1331 dX10_freshText_96 ?_
        refine r_iload_n (pc := 99) cx dX10_freshText_99 1 rfl ?_
        refine r_iconst (pc := 100) cx dX10_freshText_100 ic_0 ?_
        obtain ⟨h36, hf⟩ := chk_of hf
        obtain ⟨f37, ef37, hf⟩ := nm_of hf
        refine r_zast (pc := 101) (ws' := [((q 0), ob 9 [.int (M_thrown v21), .ref (q 1), .int (M_taped (M_tp v21)), .ref (q 2), .ref (q 3), .ref (q 4), .ref (q 5), .ref (q 6), .ref (q 7), .ref (q 8), .ref (q 9), .ref (q 10), .ref (q 11), .ref (q 12), .ref (q 13), .ref (q 14), .int (M_lines (M_rd v21)), .int (M_size (M_rd v21)), .int (M_at (M_rd v21)), .int (M_place (M_rd v21)), .int (M_sort (M_rd v21)), .int (M_value (M_rd v21)), .int (M_fault (M_rd v21)), .int (M_faultPlace (M_rd v21)), .int (M_lastFault (M_lf v21)), .int (M_lastPlace (M_lf v21)), .ref (q 15), .ref (q 16), .ref (q 17), .ref (q 18), .int (M_hasImage (M_im v21)), .int (M_spanNow (M_rn v21)), .ref (q 19), .int (M_placeThen (M_rn v21)), .int (M_alonePlace (M_al v21)), .int (M_aloneSteps (M_al v21)), .int (M_aloneOut (M_al v21)), .ref (q 20), .ref (q 21), .ref (q 22), .ref (q 23), .int (M_shotAlarm (M_ex v21)), .int (M_drawn (M_ex v21))]), ((q 1), aI K 700 (M_tape (M_tp v21))), ((q 2), aI K 20 (M_number (M_cd v21))), ((q 3), aZ K 5 f25), ((q 4), aI K 80 (M_codeSort (M_cd v21))), ((q 5), aI K 80 (M_codeA (M_cd v21))), ((q 6), aI K 80 (M_codeB (M_cd v21))), ((q 7), aI K 80 (M_codeC (M_cd v21))), ((q 8), aI K 80 (M_codeName (M_cd v21))), ((q 9), aI K 80 (M_codePlace (M_cd v21))), ((q 10), aI K 80 (M_codeTo (M_cd v21))), ((q 11), aI K 280 (M_labelName (M_cd v21))), ((q 12), aI K 280 (M_labelAt (M_cd v21))), ((q 13), aI K 64 f31), ((q 14), aZ K 32 f37), ((q 15), aI K 314 (M_s (M_rn v21))), ((q 16), aI K 314 (M_aside (M_ex v21))), ((q 17), aI K 314 (M_further (M_ex v21))), ((q 18), aI K 314 (M_image (M_im v21))), ((q 19), aI K 3 (M_sizeNow (M_rn v21))), ((q 20), aI K 8 (M_aloneRegister (M_al v21))), ((q 21), aI K 4 (M_aloneReal (M_al v21))), ((q 22), aI K 32 (M_aloneMemory (M_al v21))), ((q 23), aI K 999 (M_aloneOutput (M_al v21)))]) cx 14 rfl h36 dX10_freshText_101 ef37 rfl ?_
        refine r_aload_n (pc := 102) cx dX10_freshText_102 0 rfl ?_
        refine r_get (pc := 103) cx cf_X10 0 14 rfl (by decide) rfl wd_1330 dX10_freshText_103 ?_
        refine r_bipush (pc := 106) cx dX10_freshText_106 bp_32 ?_
        refine r_iload_n (pc := 108) cx dX10_freshText_108 1 rfl ?_
        refine r_iadd (pc := 109) cx dX10_freshText_109 ?_
        refine r_iconst (pc := 110) cx dX10_freshText_110 ic_0 ?_
        obtain ⟨h38, hf⟩ := chk_of hf
        obtain ⟨f39, ef39, hf⟩ := nm_of hf
        refine r_iast (pc := 111) (ws' := [((q 0), ob 9 [.int (M_thrown v21), .ref (q 1), .int (M_taped (M_tp v21)), .ref (q 2), .ref (q 3), .ref (q 4), .ref (q 5), .ref (q 6), .ref (q 7), .ref (q 8), .ref (q 9), .ref (q 10), .ref (q 11), .ref (q 12), .ref (q 13), .ref (q 14), .int (M_lines (M_rd v21)), .int (M_size (M_rd v21)), .int (M_at (M_rd v21)), .int (M_place (M_rd v21)), .int (M_sort (M_rd v21)), .int (M_value (M_rd v21)), .int (M_fault (M_rd v21)), .int (M_faultPlace (M_rd v21)), .int (M_lastFault (M_lf v21)), .int (M_lastPlace (M_lf v21)), .ref (q 15), .ref (q 16), .ref (q 17), .ref (q 18), .int (M_hasImage (M_im v21)), .int (M_spanNow (M_rn v21)), .ref (q 19), .int (M_placeThen (M_rn v21)), .int (M_alonePlace (M_al v21)), .int (M_aloneSteps (M_al v21)), .int (M_aloneOut (M_al v21)), .ref (q 20), .ref (q 21), .ref (q 22), .ref (q 23), .int (M_shotAlarm (M_ex v21)), .int (M_drawn (M_ex v21))]), ((q 1), aI K 700 (M_tape (M_tp v21))), ((q 2), aI K 20 (M_number (M_cd v21))), ((q 3), aZ K 5 f25), ((q 4), aI K 80 (M_codeSort (M_cd v21))), ((q 5), aI K 80 (M_codeA (M_cd v21))), ((q 6), aI K 80 (M_codeB (M_cd v21))), ((q 7), aI K 80 (M_codeC (M_cd v21))), ((q 8), aI K 80 (M_codeName (M_cd v21))), ((q 9), aI K 80 (M_codePlace (M_cd v21))), ((q 10), aI K 80 (M_codeTo (M_cd v21))), ((q 11), aI K 280 (M_labelName (M_cd v21))), ((q 12), aI K 280 (M_labelAt (M_cd v21))), ((q 13), aI K 64 f39), ((q 14), aZ K 32 f37), ((q 15), aI K 314 (M_s (M_rn v21))), ((q 16), aI K 314 (M_aside (M_ex v21))), ((q 17), aI K 314 (M_further (M_ex v21))), ((q 18), aI K 314 (M_image (M_im v21))), ((q 19), aI K 3 (M_sizeNow (M_rn v21))), ((q 20), aI K 8 (M_aloneRegister (M_al v21))), ((q 21), aI K 4 (M_aloneReal (M_al v21))), ((q 22), aI K 32 (M_aloneMemory (M_al v21))), ((q 23), aI K 999 (M_aloneOutput (M_al v21)))]) cx 13 rfl h38 dX10_freshText_111 ef39 rfl ?_
        obtain ⟨x40, ex40, hf⟩ := nm_of hf
        refine r_iinc (pc := 112) (loc' := [(1, .int x40), (0, .ref (q 0))]) (v := x40) cx dX10_freshText_112 1 rfl ((congrArg (fun z => x30 + z) ic_1).trans ex40.symm) (by decide) rfl ?_
        refine r_goto (pc := 115) (tgt := 89) cx dX10_freshText_115 (by decide) ?_
        refine r_loc (loc' := [(0, .ref (q 0)), (1, .int x40)]) [1, 0] rfl ?_
        exact ih89 _ _ _ hf
  refine r_loc (loc' := [(0, .ref (q 0)), (1, .int (0 : Int32))]) [1, 0] rfl ?_
  refine hL89 _ (fun f33 f34 hf => ?_) _ _ _ _ hf
  cases hf
  exact r_vret (pc := 118) cx rfl dX10_freshText_118
theorem yv_X10_freshText : YV yX10_freshText cX10_freshText 2 (none) 0 := ⟨⟨by decide +kernel, by decide +kernel, by decide +kernel⟩, wd_1299, wd_102, wd_1298, wd_26⟩
def f_M_takeText_L13 (v1 : T_M) (k13_36 : (Nat → Int32) → Option (T_M)) : Nat → Int32 → (Nat → Int32) → Option (T_M)
  | 0, _, _ => none
  | n13 + 1, x3, f4 =>
    (if (10 : Int32) ≤ x3 then (k13_36 f4) else (bd (f_M_reading ((M_tp v1), (M_rd v1), (M_lf v1), (f4, (M_codeSort (M_cd v1)), (M_codeA (M_cd v1)), (M_codeB (M_cd v1)), (M_codeC (M_cd v1)), (M_codeName (M_cd v1)), (M_codePlace (M_cd v1)), (M_codeTo (M_cd v1)), (M_labelName (M_cd v1)), (M_labelAt (M_cd v1)), (M_data (M_cd v1))), (M_rn v1), (M_ex v1), (M_im v1), (M_al v1), (M_thrown v1)) x3) fun (r7 : Int32) => (if ix x3 20 then (nm (upd f4 x3.toNatClampNeg r7) fun (f10 : Nat → Int32) => (nm (x3 + (1 : Int32)) fun (x11 : Int32) => (f_M_takeText_L13 v1 k13_36 n13 x11 f10))) else none)))
def f_M_takeText_L38  (k38_125 : (Nat → Int32) → (Nat → Int32) → (Nat → Int32) → (Nat → Int32) → (Nat → Int32) → Option (T_M)) : Nat → Int32 → (Nat → Int32) → (Nat → Int32) → (Nat → Int32) → (Nat → Int32) → (Nat → Int32) → Option (T_M)
  | 0, _, _, _, _, _, _ => none
  | n38 + 1, x12, f13, f14, f15, f16, f17 =>
    (if (40 : Int32) ≤ x12 then (k38_125 f13 f14 f15 f16 f17) else (if ix ((40 : Int32) + x12) 80 then (nm (f16 (((40 : Int32) + x12)).toNatClampNeg) fun (x25 : Int32) => (if ix x12 80 then (nm (upd f16 x12.toNatClampNeg x25) fun (f27 : Nat → Int32) => (if ix ((40 : Int32) + x12) 80 then (nm (f13 (((40 : Int32) + x12)).toNatClampNeg) fun (x29 : Int32) => (if ix x12 80 then (nm (upd f13 x12.toNatClampNeg x29) fun (f31 : Nat → Int32) => (if ix ((40 : Int32) + x12) 80 then (nm (f14 (((40 : Int32) + x12)).toNatClampNeg) fun (x33 : Int32) => (if ix x12 80 then (nm (upd f14 x12.toNatClampNeg x33) fun (f35 : Nat → Int32) => (if ix ((40 : Int32) + x12) 80 then (nm (f15 (((40 : Int32) + x12)).toNatClampNeg) fun (x37 : Int32) => (if ix x12 80 then (nm (upd f15 x12.toNatClampNeg x37) fun (f39 : Nat → Int32) => (if ix ((40 : Int32) + x12) 80 then (nm (f17 (((40 : Int32) + x12)).toNatClampNeg) fun (x41 : Int32) => (if ix x12 80 then (nm (upd f17 x12.toNatClampNeg x41) fun (f43 : Nat → Int32) => (nm (x12 + (1 : Int32)) fun (x44 : Int32) => (f_M_takeText_L38 k38_125 n38 x44 f31 f35 f39 f27 f43))) else none)) else none)) else none)) else none)) else none)) else none)) else none)) else none)) else none)) else none))
def f_M_takeText_L127  (k127_172 : (Nat → Int32) → (Nat → Int32) → Option (T_M)) : Nat → Int32 → (Nat → Int32) → (Nat → Int32) → Option (T_M)
  | 0, _, _, _ => none
  | n127 + 1, x45, f46, f47 =>
    (if (140 : Int32) ≤ x45 then (k127_172 f46 f47) else (if ix ((140 : Int32) + x45) 280 then (nm (f47 (((140 : Int32) + x45)).toNatClampNeg) fun (x52 : Int32) => (if ix x45 280 then (nm (upd f47 x45.toNatClampNeg x52) fun (f54 : Nat → Int32) => (if ix ((140 : Int32) + x45) 280 then (nm (f46 (((140 : Int32) + x45)).toNatClampNeg) fun (x56 : Int32) => (if ix x45 280 then (nm (upd f46 x45.toNatClampNeg x56) fun (f58 : Nat → Int32) => (nm (x45 + (1 : Int32)) fun (x59 : Int32) => (f_M_takeText_L127 k127_172 n127 x59 f58 f54))) else none)) else none)) else none)) else none))
def f_M_takeText_L174  (k174_201 : (Nat → Int32) → Option (T_M)) : Nat → Int32 → (Nat → Int32) → Option (T_M)
  | 0, _, _ => none
  | n174 + 1, x60, f61 =>
    (if (32 : Int32) ≤ x60 then (k174_201 f61) else (if ix ((32 : Int32) + x60) 64 then (nm (f61 (((32 : Int32) + x60)).toNatClampNeg) fun (x65 : Int32) => (if ix x60 64 then (nm (upd f61 x60.toNatClampNeg x65) fun (f67 : Nat → Int32) => (nm (x60 + (1 : Int32)) fun (x68 : Int32) => (f_M_takeText_L174 k174_201 n174 x68 f67))) else none)) else none))
def f_M_takeText (v : T_M) : Option (T_M) :=
  (nm (fun (v1 : T_M) => ((f_M_takeText_L13 v1 (fun (f5 : (Nat → Int32)) => (f_M_takeText_L38 (fun (f18 : (Nat → Int32)) (f19 : (Nat → Int32)) (f20 : (Nat → Int32)) (f21 : (Nat → Int32)) (f22 : (Nat → Int32)) => (f_M_takeText_L127 (fun (f48 : (Nat → Int32)) (f49 : (Nat → Int32)) => (f_M_takeText_L174 (fun (f62 : (Nat → Int32)) => (some ((M_tp v1), (M_rd v1), (M_lf v1), (f5, f21, f18, f19, f20, (M_codeName (M_cd v1)), (M_codePlace (M_cd v1)), f22, f49, f48, f62), (M_rn v1), (M_ex v1), (M_im v1), (M_al v1), (M_thrown v1)))) LF (0 : Int32) (M_data (M_cd v1)))) LF (0 : Int32) (M_labelAt (M_cd v1)) (M_labelName (M_cd v1)))) LF (0 : Int32) (M_codeA (M_cd v1)) (M_codeB (M_cd v1)) (M_codeC (M_cd v1)) (M_codeSort (M_cd v1)) (M_codeTo (M_cd v1)))) LF (0 : Int32) (M_number (M_cd v1))) : Option (T_M))) fun J2 => (if (M_lines (M_rd v)) = (0 : Int32) then (bd (f_M_freshText v) fun (v70 : T_M) => (J2 v70)) else (J2 v)))
abbrev rm_M_takeText : Room := { frames := 2, cells := 0, slots := 0, locals := 43 }
set_option maxRecDepth 100000 in
set_option maxHeartbeats 4000000 in
theorem m_M_takeText (l : Launch) (D : va_G) (K : Nat → ClassId) (q : Nat → Nat) (v : T_M) {o_v : T_M} (hf : f_M_takeText v = some o_v) : MV l yX10_takeText cX10_takeText 2 (none) rm_M_takeText D K [.ref (q 0)] (cl_M K q v) (cl_M K q o_v) := by
  refine MV_of (loc0 := [(0, .ref (q 0))]) (by decide +kernel) rfl (Nat.le_of_ble_eq_true rfl) ?_
  intro p e s m args below meth c A cx
  unfold f_M_takeText at hf
  refine r_ws (ws' := [((q 0), ob 9 [.int (M_thrown v), .ref (q 1), .int (M_taped (M_tp v)), .ref (q 2), .ref (q 3), .ref (q 4), .ref (q 5), .ref (q 6), .ref (q 7), .ref (q 8), .ref (q 9), .ref (q 10), .ref (q 11), .ref (q 12), .ref (q 13), .ref (q 14), .int (M_lines (M_rd v)), .int (M_size (M_rd v)), .int (M_at (M_rd v)), .int (M_place (M_rd v)), .int (M_sort (M_rd v)), .int (M_value (M_rd v)), .int (M_fault (M_rd v)), .int (M_faultPlace (M_rd v)), .int (M_lastFault (M_lf v)), .int (M_lastPlace (M_lf v)), .ref (q 15), .ref (q 16), .ref (q 17), .ref (q 18), .int (M_hasImage (M_im v)), .int (M_spanNow (M_rn v)), .ref (q 19), .int (M_placeThen (M_rn v)), .int (M_alonePlace (M_al v)), .int (M_aloneSteps (M_al v)), .int (M_aloneOut (M_al v)), .ref (q 20), .ref (q 21), .ref (q 22), .ref (q 23), .int (M_shotAlarm (M_ex v)), .int (M_drawn (M_ex v))]), ((q 1), aI K 700 (M_tape (M_tp v))), ((q 2), aI K 20 (M_number (M_cd v))), ((q 3), aZ K 5 (M_isTold (M_rd v))), ((q 4), aI K 80 (M_codeSort (M_cd v))), ((q 5), aI K 80 (M_codeA (M_cd v))), ((q 6), aI K 80 (M_codeB (M_cd v))), ((q 7), aI K 80 (M_codeC (M_cd v))), ((q 8), aI K 80 (M_codeName (M_cd v))), ((q 9), aI K 80 (M_codePlace (M_cd v))), ((q 10), aI K 80 (M_codeTo (M_cd v))), ((q 11), aI K 280 (M_labelName (M_cd v))), ((q 12), aI K 280 (M_labelAt (M_cd v))), ((q 13), aI K 64 (M_data (M_cd v))), ((q 14), aZ K 32 (M_hasData (M_rd v))), ((q 15), aI K 314 (M_s (M_rn v))), ((q 16), aI K 314 (M_aside (M_ex v))), ((q 17), aI K 314 (M_further (M_ex v))), ((q 18), aI K 314 (M_image (M_im v))), ((q 19), aI K 3 (M_sizeNow (M_rn v))), ((q 20), aI K 8 (M_aloneRegister (M_al v))), ((q 21), aI K 4 (M_aloneReal (M_al v))), ((q 22), aI K 32 (M_aloneMemory (M_al v))), ((q 23), aI K 999 (M_aloneOutput (M_al v)))]) rfl ?_
  refine r_aload_n (pc := 0) cx dX10_takeText_0 0 rfl ?_
  refine r_get (pc := 1) cx cf_X10 0 16 rfl (by decide) rfl wd_1332 dX10_takeText_1 ?_
  obtain ⟨J2, eJ2, hf⟩ := nm_of hf
  have hJ2 : ∀ (v1 : T_M), J2 v1 = some o_v → WW p l e rm_M_takeText s m args below meth c D A 2 0 0 (MQ below (QV D K A (cl_M K q o_v)) args s 0 0 A) ([((q 0), ob 9 [.int (M_thrown v1), .ref (q 1), .int (M_taped (M_tp v1)), .ref (q 2), .ref (q 3), .ref (q 4), .ref (q 5), .ref (q 6), .ref (q 7), .ref (q 8), .ref (q 9), .ref (q 10), .ref (q 11), .ref (q 12), .ref (q 13), .ref (q 14), .int (M_lines (M_rd v1)), .int (M_size (M_rd v1)), .int (M_at (M_rd v1)), .int (M_place (M_rd v1)), .int (M_sort (M_rd v1)), .int (M_value (M_rd v1)), .int (M_fault (M_rd v1)), .int (M_faultPlace (M_rd v1)), .int (M_lastFault (M_lf v1)), .int (M_lastPlace (M_lf v1)), .ref (q 15), .ref (q 16), .ref (q 17), .ref (q 18), .int (M_hasImage (M_im v1)), .int (M_spanNow (M_rn v1)), .ref (q 19), .int (M_placeThen (M_rn v1)), .int (M_alonePlace (M_al v1)), .int (M_aloneSteps (M_al v1)), .int (M_aloneOut (M_al v1)), .ref (q 20), .ref (q 21), .ref (q 22), .ref (q 23), .int (M_shotAlarm (M_ex v1)), .int (M_drawn (M_ex v1))]), ((q 1), aI K 700 (M_tape (M_tp v1))), ((q 2), aI K 20 (M_number (M_cd v1))), ((q 3), aZ K 5 (M_isTold (M_rd v1))), ((q 4), aI K 80 (M_codeSort (M_cd v1))), ((q 5), aI K 80 (M_codeA (M_cd v1))), ((q 6), aI K 80 (M_codeB (M_cd v1))), ((q 7), aI K 80 (M_codeC (M_cd v1))), ((q 8), aI K 80 (M_codeName (M_cd v1))), ((q 9), aI K 80 (M_codePlace (M_cd v1))), ((q 10), aI K 80 (M_codeTo (M_cd v1))), ((q 11), aI K 280 (M_labelName (M_cd v1))), ((q 12), aI K 280 (M_labelAt (M_cd v1))), ((q 13), aI K 64 (M_data (M_cd v1))), ((q 14), aZ K 32 (M_hasData (M_rd v1))), ((q 15), aI K 314 (M_s (M_rn v1))), ((q 16), aI K 314 (M_aside (M_ex v1))), ((q 17), aI K 314 (M_further (M_ex v1))), ((q 18), aI K 314 (M_image (M_im v1))), ((q 19), aI K 3 (M_sizeNow (M_rn v1))), ((q 20), aI K 8 (M_aloneRegister (M_al v1))), ((q 21), aI K 4 (M_aloneReal (M_al v1))), ((q 22), aI K 32 (M_aloneMemory (M_al v1))), ((q 23), aI K 999 (M_aloneOutput (M_al v1)))]) ([(0, .ref (q 0))]) ([]) 11 := by
    intro v1 hf
    rw [eJ2] at hf
    refine r_iconst (pc := 11) cx dX10_takeText_11 ic_0 ?_
    refine r_istore_n (pc := 12) (loc' := [(1, .int (0 : Int32)), (0, .ref (q 0))]) cx dX10_takeText_12 rfl (by decide) rfl ?_
    have hL13 : ∀ (k13_36 : (Nat → Int32) → Option (T_M)), (∀ (f5 : (Nat → Int32)), k13_36 f5 = some o_v → WW p l e rm_M_takeText s m args below meth c D A 2 0 0 (MQ below (QV D K A (cl_M K q o_v)) args s 0 0 A) ([((q 0), ob 9 [.int (M_thrown v1), .ref (q 1), .int (M_taped (M_tp v1)), .ref (q 2), .ref (q 3), .ref (q 4), .ref (q 5), .ref (q 6), .ref (q 7), .ref (q 8), .ref (q 9), .ref (q 10), .ref (q 11), .ref (q 12), .ref (q 13), .ref (q 14), .int (M_lines (M_rd v1)), .int (M_size (M_rd v1)), .int (M_at (M_rd v1)), .int (M_place (M_rd v1)), .int (M_sort (M_rd v1)), .int (M_value (M_rd v1)), .int (M_fault (M_rd v1)), .int (M_faultPlace (M_rd v1)), .int (M_lastFault (M_lf v1)), .int (M_lastPlace (M_lf v1)), .ref (q 15), .ref (q 16), .ref (q 17), .ref (q 18), .int (M_hasImage (M_im v1)), .int (M_spanNow (M_rn v1)), .ref (q 19), .int (M_placeThen (M_rn v1)), .int (M_alonePlace (M_al v1)), .int (M_aloneSteps (M_al v1)), .int (M_aloneOut (M_al v1)), .ref (q 20), .ref (q 21), .ref (q 22), .ref (q 23), .int (M_shotAlarm (M_ex v1)), .int (M_drawn (M_ex v1))]), ((q 1), aI K 700 (M_tape (M_tp v1))), ((q 2), aI K 20 f5), ((q 3), aZ K 5 (M_isTold (M_rd v1))), ((q 4), aI K 80 (M_codeSort (M_cd v1))), ((q 5), aI K 80 (M_codeA (M_cd v1))), ((q 6), aI K 80 (M_codeB (M_cd v1))), ((q 7), aI K 80 (M_codeC (M_cd v1))), ((q 8), aI K 80 (M_codeName (M_cd v1))), ((q 9), aI K 80 (M_codePlace (M_cd v1))), ((q 10), aI K 80 (M_codeTo (M_cd v1))), ((q 11), aI K 280 (M_labelName (M_cd v1))), ((q 12), aI K 280 (M_labelAt (M_cd v1))), ((q 13), aI K 64 (M_data (M_cd v1))), ((q 14), aZ K 32 (M_hasData (M_rd v1))), ((q 15), aI K 314 (M_s (M_rn v1))), ((q 16), aI K 314 (M_aside (M_ex v1))), ((q 17), aI K 314 (M_further (M_ex v1))), ((q 18), aI K 314 (M_image (M_im v1))), ((q 19), aI K 3 (M_sizeNow (M_rn v1))), ((q 20), aI K 8 (M_aloneRegister (M_al v1))), ((q 21), aI K 4 (M_aloneReal (M_al v1))), ((q 22), aI K 32 (M_aloneMemory (M_al v1))), ((q 23), aI K 999 (M_aloneOutput (M_al v1)))]) ([(0, .ref (q 0))]) ([]) 36) → ∀ (n13 : Nat) (x3 : Int32) (f4 : (Nat → Int32)), f_M_takeText_L13 v1 k13_36 n13 x3 f4 = some o_v → WW p l e rm_M_takeText s m args below meth c D A 2 0 0 (MQ below (QV D K A (cl_M K q o_v)) args s 0 0 A) ([((q 0), ob 9 [.int (M_thrown v1), .ref (q 1), .int (M_taped (M_tp v1)), .ref (q 2), .ref (q 3), .ref (q 4), .ref (q 5), .ref (q 6), .ref (q 7), .ref (q 8), .ref (q 9), .ref (q 10), .ref (q 11), .ref (q 12), .ref (q 13), .ref (q 14), .int (M_lines (M_rd v1)), .int (M_size (M_rd v1)), .int (M_at (M_rd v1)), .int (M_place (M_rd v1)), .int (M_sort (M_rd v1)), .int (M_value (M_rd v1)), .int (M_fault (M_rd v1)), .int (M_faultPlace (M_rd v1)), .int (M_lastFault (M_lf v1)), .int (M_lastPlace (M_lf v1)), .ref (q 15), .ref (q 16), .ref (q 17), .ref (q 18), .int (M_hasImage (M_im v1)), .int (M_spanNow (M_rn v1)), .ref (q 19), .int (M_placeThen (M_rn v1)), .int (M_alonePlace (M_al v1)), .int (M_aloneSteps (M_al v1)), .int (M_aloneOut (M_al v1)), .ref (q 20), .ref (q 21), .ref (q 22), .ref (q 23), .int (M_shotAlarm (M_ex v1)), .int (M_drawn (M_ex v1))]), ((q 1), aI K 700 (M_tape (M_tp v1))), ((q 2), aI K 20 f4), ((q 3), aZ K 5 (M_isTold (M_rd v1))), ((q 4), aI K 80 (M_codeSort (M_cd v1))), ((q 5), aI K 80 (M_codeA (M_cd v1))), ((q 6), aI K 80 (M_codeB (M_cd v1))), ((q 7), aI K 80 (M_codeC (M_cd v1))), ((q 8), aI K 80 (M_codeName (M_cd v1))), ((q 9), aI K 80 (M_codePlace (M_cd v1))), ((q 10), aI K 80 (M_codeTo (M_cd v1))), ((q 11), aI K 280 (M_labelName (M_cd v1))), ((q 12), aI K 280 (M_labelAt (M_cd v1))), ((q 13), aI K 64 (M_data (M_cd v1))), ((q 14), aZ K 32 (M_hasData (M_rd v1))), ((q 15), aI K 314 (M_s (M_rn v1))), ((q 16), aI K 314 (M_aside (M_ex v1))), ((q 17), aI K 314 (M_further (M_ex v1))), ((q 18), aI K 314 (M_image (M_im v1))), ((q 19), aI K 3 (M_sizeNow (M_rn v1))), ((q 20), aI K 8 (M_aloneRegister (M_al v1))), ((q 21), aI K 4 (M_aloneReal (M_al v1))), ((q 22), aI K 32 (M_aloneMemory (M_al v1))), ((q 23), aI K 999 (M_aloneOutput (M_al v1)))]) ([(0, .ref (q 0)), (1, .int x3)]) ([]) 13 := by
      intro k13_36 hk13_36 n13
      induction n13 with
      | zero => intro x3 f4 hf; exact (nomatch (show (none : Option (T_M)) = some _ from hf))
      | succ n13 ih13 =>
        intro x3 f4 hf
        rw [f_M_takeText_L13] at hf
        refine r_iload_n (pc := 13) cx dX10_takeText_13 1 rfl ?_
        refine r_bipush (pc := 14) cx dX10_takeText_14 bp_10 ?_
        refine r_icmp_ge (pc := 16) (tgt := 36) cx dX10_takeText_16 (by decide) (fun h6 => ?_) (fun h6 => ?_)
        · have hf := ifp h6 hf
          refine r_loc (loc' := [(0, .ref (q 0))]) [0] rfl ?_
          exact hk13_36 _ hf
        · have hf := ifn h6 hf
          refine r_aload_n (pc := 19) cx dX10_takeText_19 0 rfl ?_
          refine r_get (pc := 20) cx cf_X10 0 3 rfl (by decide) rfl wd_1319 dX10_takeText_20 ?_
          refine r_iload_n (pc := 23) cx dX10_takeText_23 1 rfl ?_
          refine r_aload_n (pc := 24) cx dX10_takeText_24 0 rfl ?_
          refine r_iload_n (pc := 25) cx dX10_takeText_25 1 rfl ?_
          obtain ⟨r7, hc8, hf⟩ := bd_of hf
          refine r_Vi (pc := 26) (ws' := [((q 0), ob 9 [.int (M_thrown v1), .ref (q 1), .int (M_taped (M_tp v1)), .ref (q 2), .ref (q 3), .ref (q 4), .ref (q 5), .ref (q 6), .ref (q 7), .ref (q 8), .ref (q 9), .ref (q 10), .ref (q 11), .ref (q 12), .ref (q 13), .ref (q 14), .int (M_lines (M_rd v1)), .int (M_size (M_rd v1)), .int (M_at (M_rd v1)), .int (M_place (M_rd v1)), .int (M_sort (M_rd v1)), .int (M_value (M_rd v1)), .int (M_fault (M_rd v1)), .int (M_faultPlace (M_rd v1)), .int (M_lastFault (M_lf v1)), .int (M_lastPlace (M_lf v1)), .ref (q 15), .ref (q 16), .ref (q 17), .ref (q 18), .int (M_hasImage (M_im v1)), .int (M_spanNow (M_rn v1)), .ref (q 19), .int (M_placeThen (M_rn v1)), .int (M_alonePlace (M_al v1)), .int (M_aloneSteps (M_al v1)), .int (M_aloneOut (M_al v1)), .ref (q 20), .ref (q 21), .ref (q 22), .ref (q 23), .int (M_shotAlarm (M_ex v1)), .int (M_drawn (M_ex v1))]), ((q 1), aI K 700 (M_tape (M_tp v1))), ((q 2), aI K 20 f4), ((q 3), aZ K 5 (M_isTold (M_rd v1))), ((q 4), aI K 80 (M_codeSort (M_cd v1))), ((q 5), aI K 80 (M_codeA (M_cd v1))), ((q 6), aI K 80 (M_codeB (M_cd v1))), ((q 7), aI K 80 (M_codeC (M_cd v1))), ((q 8), aI K 80 (M_codeName (M_cd v1))), ((q 9), aI K 80 (M_codePlace (M_cd v1))), ((q 10), aI K 80 (M_codeTo (M_cd v1))), ((q 11), aI K 280 (M_labelName (M_cd v1))), ((q 12), aI K 280 (M_labelAt (M_cd v1))), ((q 13), aI K 64 (M_data (M_cd v1))), ((q 14), aZ K 32 (M_hasData (M_rd v1))), ((q 15), aI K 314 (M_s (M_rn v1))), ((q 16), aI K 314 (M_aside (M_ex v1))), ((q 17), aI K 314 (M_further (M_ex v1))), ((q 18), aI K 314 (M_image (M_im v1))), ((q 19), aI K 3 (M_sizeNow (M_rn v1))), ((q 20), aI K 8 (M_aloneRegister (M_al v1))), ((q 21), aI K 4 (M_aloneReal (M_al v1))), ((q 22), aI K 32 (M_aloneMemory (M_al v1))), ((q 23), aI K 999 (M_aloneOutput (M_al v1)))]) cx [.int x3] [.int x3, .ref (q 2)] [0, 1, 2, 3, 4, 5, 6, 7, 8, 9, 10, 11, 12, 13, 14, 15, 16, 17, 18, 19, 20, 21, 22, 23] (m_M_reading l D K q ((M_tp v1), (M_rd v1), (M_lf v1), (f4, (M_codeSort (M_cd v1)), (M_codeA (M_cd v1)), (M_codeB (M_cd v1)), (M_codeC (M_cd v1)), (M_codeName (M_cd v1)), (M_codePlace (M_cd v1)), (M_codeTo (M_cd v1)), (M_labelName (M_cd v1)), (M_labelAt (M_cd v1)), (M_data (M_cd v1))), (M_rn v1), (M_ex v1), (M_im v1), (M_al v1), (M_thrown v1)) x3 hc8) yv_X10_reading wd_1304 ⟨rfl, rfl⟩ (by decide) rfl rfl rfl (by decide) 0 rfl rfl rfl (Nat.le_of_ble_eq_true rfl) dX10_takeText_26 ?_
          obtain ⟨h9, hf⟩ := chk_of hf
          obtain ⟨f10, ef10, hf⟩ := nm_of hf
          refine r_iast (pc := 29) (ws' := [((q 0), ob 9 [.int (M_thrown v1), .ref (q 1), .int (M_taped (M_tp v1)), .ref (q 2), .ref (q 3), .ref (q 4), .ref (q 5), .ref (q 6), .ref (q 7), .ref (q 8), .ref (q 9), .ref (q 10), .ref (q 11), .ref (q 12), .ref (q 13), .ref (q 14), .int (M_lines (M_rd v1)), .int (M_size (M_rd v1)), .int (M_at (M_rd v1)), .int (M_place (M_rd v1)), .int (M_sort (M_rd v1)), .int (M_value (M_rd v1)), .int (M_fault (M_rd v1)), .int (M_faultPlace (M_rd v1)), .int (M_lastFault (M_lf v1)), .int (M_lastPlace (M_lf v1)), .ref (q 15), .ref (q 16), .ref (q 17), .ref (q 18), .int (M_hasImage (M_im v1)), .int (M_spanNow (M_rn v1)), .ref (q 19), .int (M_placeThen (M_rn v1)), .int (M_alonePlace (M_al v1)), .int (M_aloneSteps (M_al v1)), .int (M_aloneOut (M_al v1)), .ref (q 20), .ref (q 21), .ref (q 22), .ref (q 23), .int (M_shotAlarm (M_ex v1)), .int (M_drawn (M_ex v1))]), ((q 1), aI K 700 (M_tape (M_tp v1))), ((q 2), aI K 20 f10), ((q 3), aZ K 5 (M_isTold (M_rd v1))), ((q 4), aI K 80 (M_codeSort (M_cd v1))), ((q 5), aI K 80 (M_codeA (M_cd v1))), ((q 6), aI K 80 (M_codeB (M_cd v1))), ((q 7), aI K 80 (M_codeC (M_cd v1))), ((q 8), aI K 80 (M_codeName (M_cd v1))), ((q 9), aI K 80 (M_codePlace (M_cd v1))), ((q 10), aI K 80 (M_codeTo (M_cd v1))), ((q 11), aI K 280 (M_labelName (M_cd v1))), ((q 12), aI K 280 (M_labelAt (M_cd v1))), ((q 13), aI K 64 (M_data (M_cd v1))), ((q 14), aZ K 32 (M_hasData (M_rd v1))), ((q 15), aI K 314 (M_s (M_rn v1))), ((q 16), aI K 314 (M_aside (M_ex v1))), ((q 17), aI K 314 (M_further (M_ex v1))), ((q 18), aI K 314 (M_image (M_im v1))), ((q 19), aI K 3 (M_sizeNow (M_rn v1))), ((q 20), aI K 8 (M_aloneRegister (M_al v1))), ((q 21), aI K 4 (M_aloneReal (M_al v1))), ((q 22), aI K 32 (M_aloneMemory (M_al v1))), ((q 23), aI K 999 (M_aloneOutput (M_al v1)))]) cx 2 rfl h9 dX10_takeText_29 ef10 rfl ?_
          obtain ⟨x11, ex11, hf⟩ := nm_of hf
          refine r_iinc (pc := 30) (loc' := [(1, .int x11), (0, .ref (q 0))]) (v := x11) cx dX10_takeText_30 1 rfl ((congrArg (fun z => x3 + z) ic_1).trans ex11.symm) (by decide) rfl ?_
          refine r_goto (pc := 33) (tgt := 13) cx dX10_takeText_33 (by decide) ?_
          refine r_loc (loc' := [(0, .ref (q 0)), (1, .int x11)]) [1, 0] rfl ?_
          exact ih13 _ _ hf
    refine r_loc (loc' := [(0, .ref (q 0)), (1, .int (0 : Int32))]) [1, 0] rfl ?_
    refine hL13 _ (fun f5 hf => ?_) _ _ _ hf
    refine r_iconst (pc := 36) cx dX10_takeText_36 ic_0 ?_
    refine r_istore_n (pc := 37) (loc' := [(1, .int (0 : Int32)), (0, .ref (q 0))]) cx dX10_takeText_37 rfl (by decide) rfl ?_
    have hL38 : ∀ (k38_125 : (Nat → Int32) → (Nat → Int32) → (Nat → Int32) → (Nat → Int32) → (Nat → Int32) → Option (T_M)), (∀ (f18 : (Nat → Int32)) (f19 : (Nat → Int32)) (f20 : (Nat → Int32)) (f21 : (Nat → Int32)) (f22 : (Nat → Int32)), k38_125 f18 f19 f20 f21 f22 = some o_v → WW p l e rm_M_takeText s m args below meth c D A 2 0 0 (MQ below (QV D K A (cl_M K q o_v)) args s 0 0 A) ([((q 0), ob 9 [.int (M_thrown v1), .ref (q 1), .int (M_taped (M_tp v1)), .ref (q 2), .ref (q 3), .ref (q 4), .ref (q 5), .ref (q 6), .ref (q 7), .ref (q 8), .ref (q 9), .ref (q 10), .ref (q 11), .ref (q 12), .ref (q 13), .ref (q 14), .int (M_lines (M_rd v1)), .int (M_size (M_rd v1)), .int (M_at (M_rd v1)), .int (M_place (M_rd v1)), .int (M_sort (M_rd v1)), .int (M_value (M_rd v1)), .int (M_fault (M_rd v1)), .int (M_faultPlace (M_rd v1)), .int (M_lastFault (M_lf v1)), .int (M_lastPlace (M_lf v1)), .ref (q 15), .ref (q 16), .ref (q 17), .ref (q 18), .int (M_hasImage (M_im v1)), .int (M_spanNow (M_rn v1)), .ref (q 19), .int (M_placeThen (M_rn v1)), .int (M_alonePlace (M_al v1)), .int (M_aloneSteps (M_al v1)), .int (M_aloneOut (M_al v1)), .ref (q 20), .ref (q 21), .ref (q 22), .ref (q 23), .int (M_shotAlarm (M_ex v1)), .int (M_drawn (M_ex v1))]), ((q 1), aI K 700 (M_tape (M_tp v1))), ((q 2), aI K 20 f5), ((q 3), aZ K 5 (M_isTold (M_rd v1))), ((q 4), aI K 80 f21), ((q 5), aI K 80 f18), ((q 6), aI K 80 f19), ((q 7), aI K 80 f20), ((q 8), aI K 80 (M_codeName (M_cd v1))), ((q 9), aI K 80 (M_codePlace (M_cd v1))), ((q 10), aI K 80 f22), ((q 11), aI K 280 (M_labelName (M_cd v1))), ((q 12), aI K 280 (M_labelAt (M_cd v1))), ((q 13), aI K 64 (M_data (M_cd v1))), ((q 14), aZ K 32 (M_hasData (M_rd v1))), ((q 15), aI K 314 (M_s (M_rn v1))), ((q 16), aI K 314 (M_aside (M_ex v1))), ((q 17), aI K 314 (M_further (M_ex v1))), ((q 18), aI K 314 (M_image (M_im v1))), ((q 19), aI K 3 (M_sizeNow (M_rn v1))), ((q 20), aI K 8 (M_aloneRegister (M_al v1))), ((q 21), aI K 4 (M_aloneReal (M_al v1))), ((q 22), aI K 32 (M_aloneMemory (M_al v1))), ((q 23), aI K 999 (M_aloneOutput (M_al v1)))]) ([(0, .ref (q 0))]) ([]) 125) → ∀ (n38 : Nat) (x12 : Int32) (f13 : (Nat → Int32)) (f14 : (Nat → Int32)) (f15 : (Nat → Int32)) (f16 : (Nat → Int32)) (f17 : (Nat → Int32)), f_M_takeText_L38 k38_125 n38 x12 f13 f14 f15 f16 f17 = some o_v → WW p l e rm_M_takeText s m args below meth c D A 2 0 0 (MQ below (QV D K A (cl_M K q o_v)) args s 0 0 A) ([((q 0), ob 9 [.int (M_thrown v1), .ref (q 1), .int (M_taped (M_tp v1)), .ref (q 2), .ref (q 3), .ref (q 4), .ref (q 5), .ref (q 6), .ref (q 7), .ref (q 8), .ref (q 9), .ref (q 10), .ref (q 11), .ref (q 12), .ref (q 13), .ref (q 14), .int (M_lines (M_rd v1)), .int (M_size (M_rd v1)), .int (M_at (M_rd v1)), .int (M_place (M_rd v1)), .int (M_sort (M_rd v1)), .int (M_value (M_rd v1)), .int (M_fault (M_rd v1)), .int (M_faultPlace (M_rd v1)), .int (M_lastFault (M_lf v1)), .int (M_lastPlace (M_lf v1)), .ref (q 15), .ref (q 16), .ref (q 17), .ref (q 18), .int (M_hasImage (M_im v1)), .int (M_spanNow (M_rn v1)), .ref (q 19), .int (M_placeThen (M_rn v1)), .int (M_alonePlace (M_al v1)), .int (M_aloneSteps (M_al v1)), .int (M_aloneOut (M_al v1)), .ref (q 20), .ref (q 21), .ref (q 22), .ref (q 23), .int (M_shotAlarm (M_ex v1)), .int (M_drawn (M_ex v1))]), ((q 1), aI K 700 (M_tape (M_tp v1))), ((q 2), aI K 20 f5), ((q 3), aZ K 5 (M_isTold (M_rd v1))), ((q 4), aI K 80 f16), ((q 5), aI K 80 f13), ((q 6), aI K 80 f14), ((q 7), aI K 80 f15), ((q 8), aI K 80 (M_codeName (M_cd v1))), ((q 9), aI K 80 (M_codePlace (M_cd v1))), ((q 10), aI K 80 f17), ((q 11), aI K 280 (M_labelName (M_cd v1))), ((q 12), aI K 280 (M_labelAt (M_cd v1))), ((q 13), aI K 64 (M_data (M_cd v1))), ((q 14), aZ K 32 (M_hasData (M_rd v1))), ((q 15), aI K 314 (M_s (M_rn v1))), ((q 16), aI K 314 (M_aside (M_ex v1))), ((q 17), aI K 314 (M_further (M_ex v1))), ((q 18), aI K 314 (M_image (M_im v1))), ((q 19), aI K 3 (M_sizeNow (M_rn v1))), ((q 20), aI K 8 (M_aloneRegister (M_al v1))), ((q 21), aI K 4 (M_aloneReal (M_al v1))), ((q 22), aI K 32 (M_aloneMemory (M_al v1))), ((q 23), aI K 999 (M_aloneOutput (M_al v1)))]) ([(0, .ref (q 0)), (1, .int x12)]) ([]) 38 := by
      intro k38_125 hk38_125 n38
      induction n38 with
      | zero => intro x12 f13 f14 f15 f16 f17 hf; exact (nomatch (show (none : Option (T_M)) = some _ from hf))
      | succ n38 ih38 =>
        intro x12 f13 f14 f15 f16 f17 hf
        rw [f_M_takeText_L38] at hf
        refine r_iload_n (pc := 38) cx dX10_takeText_38 1 rfl ?_
        refine r_bipush (pc := 39) cx dX10_takeText_39 bp_40 ?_
        refine r_icmp_ge (pc := 41) (tgt := 125) cx dX10_takeText_41 (by decide) (fun h23 => ?_) (fun h23 => ?_)
        · have hf := ifp h23 hf
          refine r_loc (loc' := [(0, .ref (q 0))]) [0] rfl ?_
          exact hk38_125 _ _ _ _ _ hf
        · have hf := ifn h23 hf
          refine r_aload_n (pc := 44) cx dX10_takeText_44 0 rfl ?_
          refine r_get (pc := 45) cx cf_X10 0 5 rfl (by decide) rfl wd_1321 dX10_takeText_45 ?_
          refine r_iload_n (pc := 48) cx dX10_takeText_48 1 rfl ?_
          refine r_aload_n (pc := 49) cx dX10_takeText_49 0 rfl ?_
          refine r_get (pc := 50) cx cf_X10 0 5 rfl (by decide) rfl wd_1321 dX10_takeText_50 ?_
          refine r_bipush (pc := 53) cx dX10_takeText_53 bp_40 ?_
          refine r_iload_n (pc := 55) cx dX10_takeText_55 1 rfl ?_
          refine r_iadd (pc := 56) cx dX10_takeText_56 ?_
          obtain ⟨h24, hf⟩ := chk_of hf
          refine r_iald (pc := 57) cx 4 rfl h24 dX10_takeText_57 ?_
          obtain ⟨x25, ex25, hf⟩ := nm_of hf
          refine r_nm ex25 ?_
          obtain ⟨h26, hf⟩ := chk_of hf
          obtain ⟨f27, ef27, hf⟩ := nm_of hf
          refine r_iast (pc := 58) (ws' := [((q 0), ob 9 [.int (M_thrown v1), .ref (q 1), .int (M_taped (M_tp v1)), .ref (q 2), .ref (q 3), .ref (q 4), .ref (q 5), .ref (q 6), .ref (q 7), .ref (q 8), .ref (q 9), .ref (q 10), .ref (q 11), .ref (q 12), .ref (q 13), .ref (q 14), .int (M_lines (M_rd v1)), .int (M_size (M_rd v1)), .int (M_at (M_rd v1)), .int (M_place (M_rd v1)), .int (M_sort (M_rd v1)), .int (M_value (M_rd v1)), .int (M_fault (M_rd v1)), .int (M_faultPlace (M_rd v1)), .int (M_lastFault (M_lf v1)), .int (M_lastPlace (M_lf v1)), .ref (q 15), .ref (q 16), .ref (q 17), .ref (q 18), .int (M_hasImage (M_im v1)), .int (M_spanNow (M_rn v1)), .ref (q 19), .int (M_placeThen (M_rn v1)), .int (M_alonePlace (M_al v1)), .int (M_aloneSteps (M_al v1)), .int (M_aloneOut (M_al v1)), .ref (q 20), .ref (q 21), .ref (q 22), .ref (q 23), .int (M_shotAlarm (M_ex v1)), .int (M_drawn (M_ex v1))]), ((q 1), aI K 700 (M_tape (M_tp v1))), ((q 2), aI K 20 f5), ((q 3), aZ K 5 (M_isTold (M_rd v1))), ((q 4), aI K 80 f27), ((q 5), aI K 80 f13), ((q 6), aI K 80 f14), ((q 7), aI K 80 f15), ((q 8), aI K 80 (M_codeName (M_cd v1))), ((q 9), aI K 80 (M_codePlace (M_cd v1))), ((q 10), aI K 80 f17), ((q 11), aI K 280 (M_labelName (M_cd v1))), ((q 12), aI K 280 (M_labelAt (M_cd v1))), ((q 13), aI K 64 (M_data (M_cd v1))), ((q 14), aZ K 32 (M_hasData (M_rd v1))), ((q 15), aI K 314 (M_s (M_rn v1))), ((q 16), aI K 314 (M_aside (M_ex v1))), ((q 17), aI K 314 (M_further (M_ex v1))), ((q 18), aI K 314 (M_image (M_im v1))), ((q 19), aI K 3 (M_sizeNow (M_rn v1))), ((q 20), aI K 8 (M_aloneRegister (M_al v1))), ((q 21), aI K 4 (M_aloneReal (M_al v1))), ((q 22), aI K 32 (M_aloneMemory (M_al v1))), ((q 23), aI K 999 (M_aloneOutput (M_al v1)))]) cx 4 rfl h26 dX10_takeText_58 ef27 rfl ?_
          refine r_aload_n (pc := 59) cx dX10_takeText_59 0 rfl ?_
          refine r_get (pc := 60) cx cf_X10 0 6 rfl (by decide) rfl wd_1322 dX10_takeText_60 ?_
          refine r_iload_n (pc := 63) cx dX10_takeText_63 1 rfl ?_
          refine r_aload_n (pc := 64) cx dX10_takeText_64 0 rfl ?_
          refine r_get (pc := 65) cx cf_X10 0 6 rfl (by decide) rfl wd_1322 dX10_takeText_65 ?_
          refine r_bipush (pc := 68) cx dX10_takeText_68 bp_40 ?_
          refine r_iload_n (pc := 70) cx dX10_takeText_70 1 rfl ?_
          refine r_iadd (pc := 71) cx dX10_takeText_71 ?_
          obtain ⟨h28, hf⟩ := chk_of hf
          refine r_iald (pc := 72) cx 5 rfl h28 dX10_takeText_72 ?_
          obtain ⟨x29, ex29, hf⟩ := nm_of hf
          refine r_nm ex29 ?_
          obtain ⟨h30, hf⟩ := chk_of hf
          obtain ⟨f31, ef31, hf⟩ := nm_of hf
          refine r_iast (pc := 73) (ws' := [((q 0), ob 9 [.int (M_thrown v1), .ref (q 1), .int (M_taped (M_tp v1)), .ref (q 2), .ref (q 3), .ref (q 4), .ref (q 5), .ref (q 6), .ref (q 7), .ref (q 8), .ref (q 9), .ref (q 10), .ref (q 11), .ref (q 12), .ref (q 13), .ref (q 14), .int (M_lines (M_rd v1)), .int (M_size (M_rd v1)), .int (M_at (M_rd v1)), .int (M_place (M_rd v1)), .int (M_sort (M_rd v1)), .int (M_value (M_rd v1)), .int (M_fault (M_rd v1)), .int (M_faultPlace (M_rd v1)), .int (M_lastFault (M_lf v1)), .int (M_lastPlace (M_lf v1)), .ref (q 15), .ref (q 16), .ref (q 17), .ref (q 18), .int (M_hasImage (M_im v1)), .int (M_spanNow (M_rn v1)), .ref (q 19), .int (M_placeThen (M_rn v1)), .int (M_alonePlace (M_al v1)), .int (M_aloneSteps (M_al v1)), .int (M_aloneOut (M_al v1)), .ref (q 20), .ref (q 21), .ref (q 22), .ref (q 23), .int (M_shotAlarm (M_ex v1)), .int (M_drawn (M_ex v1))]), ((q 1), aI K 700 (M_tape (M_tp v1))), ((q 2), aI K 20 f5), ((q 3), aZ K 5 (M_isTold (M_rd v1))), ((q 4), aI K 80 f27), ((q 5), aI K 80 f31), ((q 6), aI K 80 f14), ((q 7), aI K 80 f15), ((q 8), aI K 80 (M_codeName (M_cd v1))), ((q 9), aI K 80 (M_codePlace (M_cd v1))), ((q 10), aI K 80 f17), ((q 11), aI K 280 (M_labelName (M_cd v1))), ((q 12), aI K 280 (M_labelAt (M_cd v1))), ((q 13), aI K 64 (M_data (M_cd v1))), ((q 14), aZ K 32 (M_hasData (M_rd v1))), ((q 15), aI K 314 (M_s (M_rn v1))), ((q 16), aI K 314 (M_aside (M_ex v1))), ((q 17), aI K 314 (M_further (M_ex v1))), ((q 18), aI K 314 (M_image (M_im v1))), ((q 19), aI K 3 (M_sizeNow (M_rn v1))), ((q 20), aI K 8 (M_aloneRegister (M_al v1))), ((q 21), aI K 4 (M_aloneReal (M_al v1))), ((q 22), aI K 32 (M_aloneMemory (M_al v1))), ((q 23), aI K 999 (M_aloneOutput (M_al v1)))]) cx 5 rfl h30 dX10_takeText_73 ef31 rfl ?_
          refine r_aload_n (pc := 74) cx dX10_takeText_74 0 rfl ?_
          refine r_get (pc := 75) cx cf_X10 0 7 rfl (by decide) rfl wd_1323 dX10_takeText_75 ?_
          refine r_iload_n (pc := 78) cx dX10_takeText_78 1 rfl ?_
          refine r_aload_n (pc := 79) cx dX10_takeText_79 0 rfl ?_
          refine r_get (pc := 80) cx cf_X10 0 7 rfl (by decide) rfl wd_1323 dX10_takeText_80 ?_
          refine r_bipush (pc := 83) cx dX10_takeText_83 bp_40 ?_
          refine r_iload_n (pc := 85) cx dX10_takeText_85 1 rfl ?_
          refine r_iadd (pc := 86) cx dX10_takeText_86 ?_
          obtain ⟨h32, hf⟩ := chk_of hf
          refine r_iald (pc := 87) cx 6 rfl h32 dX10_takeText_87 ?_
          obtain ⟨x33, ex33, hf⟩ := nm_of hf
          refine r_nm ex33 ?_
          obtain ⟨h34, hf⟩ := chk_of hf
          obtain ⟨f35, ef35, hf⟩ := nm_of hf
          refine r_iast (pc := 88) (ws' := [((q 0), ob 9 [.int (M_thrown v1), .ref (q 1), .int (M_taped (M_tp v1)), .ref (q 2), .ref (q 3), .ref (q 4), .ref (q 5), .ref (q 6), .ref (q 7), .ref (q 8), .ref (q 9), .ref (q 10), .ref (q 11), .ref (q 12), .ref (q 13), .ref (q 14), .int (M_lines (M_rd v1)), .int (M_size (M_rd v1)), .int (M_at (M_rd v1)), .int (M_place (M_rd v1)), .int (M_sort (M_rd v1)), .int (M_value (M_rd v1)), .int (M_fault (M_rd v1)), .int (M_faultPlace (M_rd v1)), .int (M_lastFault (M_lf v1)), .int (M_lastPlace (M_lf v1)), .ref (q 15), .ref (q 16), .ref (q 17), .ref (q 18), .int (M_hasImage (M_im v1)), .int (M_spanNow (M_rn v1)), .ref (q 19), .int (M_placeThen (M_rn v1)), .int (M_alonePlace (M_al v1)), .int (M_aloneSteps (M_al v1)), .int (M_aloneOut (M_al v1)), .ref (q 20), .ref (q 21), .ref (q 22), .ref (q 23), .int (M_shotAlarm (M_ex v1)), .int (M_drawn (M_ex v1))]), ((q 1), aI K 700 (M_tape (M_tp v1))), ((q 2), aI K 20 f5), ((q 3), aZ K 5 (M_isTold (M_rd v1))), ((q 4), aI K 80 f27), ((q 5), aI K 80 f31), ((q 6), aI K 80 f35), ((q 7), aI K 80 f15), ((q 8), aI K 80 (M_codeName (M_cd v1))), ((q 9), aI K 80 (M_codePlace (M_cd v1))), ((q 10), aI K 80 f17), ((q 11), aI K 280 (M_labelName (M_cd v1))), ((q 12), aI K 280 (M_labelAt (M_cd v1))), ((q 13), aI K 64 (M_data (M_cd v1))), ((q 14), aZ K 32 (M_hasData (M_rd v1))), ((q 15), aI K 314 (M_s (M_rn v1))), ((q 16), aI K 314 (M_aside (M_ex v1))), ((q 17), aI K 314 (M_further (M_ex v1))), ((q 18), aI K 314 (M_image (M_im v1))), ((q 19), aI K 3 (M_sizeNow (M_rn v1))), ((q 20), aI K 8 (M_aloneRegister (M_al v1))), ((q 21), aI K 4 (M_aloneReal (M_al v1))), ((q 22), aI K 32 (M_aloneMemory (M_al v1))), ((q 23), aI K 999 (M_aloneOutput (M_al v1)))]) cx 6 rfl h34 dX10_takeText_88 ef35 rfl ?_
          refine r_aload_n (pc := 89) cx dX10_takeText_89 0 rfl ?_
          refine r_get (pc := 90) cx cf_X10 0 8 rfl (by decide) rfl wd_1324 dX10_takeText_90 ?_
          refine r_iload_n (pc := 93) cx dX10_takeText_93 1 rfl ?_
          refine r_aload_n (pc := 94) cx dX10_takeText_94 0 rfl ?_
          refine r_get (pc := 95) cx cf_X10 0 8 rfl (by decide) rfl wd_1324 dX10_takeText_95 ?_
          refine r_bipush (pc := 98) cx dX10_takeText_98 bp_40 ?_
          refine r_iload_n (pc := 100) cx dX10_takeText_100 1 rfl ?_
          refine r_iadd (pc := 101) cx dX10_takeText_101 ?_
          obtain ⟨h36, hf⟩ := chk_of hf
          refine r_iald (pc := 102) cx 7 rfl h36 dX10_takeText_102 ?_
          obtain ⟨x37, ex37, hf⟩ := nm_of hf
          refine r_nm ex37 ?_
          obtain ⟨h38, hf⟩ := chk_of hf
          obtain ⟨f39, ef39, hf⟩ := nm_of hf
          refine r_iast (pc := 103) (ws' := [((q 0), ob 9 [.int (M_thrown v1), .ref (q 1), .int (M_taped (M_tp v1)), .ref (q 2), .ref (q 3), .ref (q 4), .ref (q 5), .ref (q 6), .ref (q 7), .ref (q 8), .ref (q 9), .ref (q 10), .ref (q 11), .ref (q 12), .ref (q 13), .ref (q 14), .int (M_lines (M_rd v1)), .int (M_size (M_rd v1)), .int (M_at (M_rd v1)), .int (M_place (M_rd v1)), .int (M_sort (M_rd v1)), .int (M_value (M_rd v1)), .int (M_fault (M_rd v1)), .int (M_faultPlace (M_rd v1)), .int (M_lastFault (M_lf v1)), .int (M_lastPlace (M_lf v1)), .ref (q 15), .ref (q 16), .ref (q 17), .ref (q 18), .int (M_hasImage (M_im v1)), .int (M_spanNow (M_rn v1)), .ref (q 19), .int (M_placeThen (M_rn v1)), .int (M_alonePlace (M_al v1)), .int (M_aloneSteps (M_al v1)), .int (M_aloneOut (M_al v1)), .ref (q 20), .ref (q 21), .ref (q 22), .ref (q 23), .int (M_shotAlarm (M_ex v1)), .int (M_drawn (M_ex v1))]), ((q 1), aI K 700 (M_tape (M_tp v1))), ((q 2), aI K 20 f5), ((q 3), aZ K 5 (M_isTold (M_rd v1))), ((q 4), aI K 80 f27), ((q 5), aI K 80 f31), ((q 6), aI K 80 f35), ((q 7), aI K 80 f39), ((q 8), aI K 80 (M_codeName (M_cd v1))), ((q 9), aI K 80 (M_codePlace (M_cd v1))), ((q 10), aI K 80 f17), ((q 11), aI K 280 (M_labelName (M_cd v1))), ((q 12), aI K 280 (M_labelAt (M_cd v1))), ((q 13), aI K 64 (M_data (M_cd v1))), ((q 14), aZ K 32 (M_hasData (M_rd v1))), ((q 15), aI K 314 (M_s (M_rn v1))), ((q 16), aI K 314 (M_aside (M_ex v1))), ((q 17), aI K 314 (M_further (M_ex v1))), ((q 18), aI K 314 (M_image (M_im v1))), ((q 19), aI K 3 (M_sizeNow (M_rn v1))), ((q 20), aI K 8 (M_aloneRegister (M_al v1))), ((q 21), aI K 4 (M_aloneReal (M_al v1))), ((q 22), aI K 32 (M_aloneMemory (M_al v1))), ((q 23), aI K 999 (M_aloneOutput (M_al v1)))]) cx 7 rfl h38 dX10_takeText_103 ef39 rfl ?_
          refine r_aload_n (pc := 104) cx dX10_takeText_104 0 rfl ?_
          refine r_get (pc := 105) cx cf_X10 0 11 rfl (by decide) rfl wd_1327 dX10_takeText_105 ?_
          refine r_iload_n (pc := 108) cx dX10_takeText_108 1 rfl ?_
          refine r_aload_n (pc := 109) cx dX10_takeText_109 0 rfl ?_
          refine r_get (pc := 110) cx cf_X10 0 11 rfl (by decide) rfl wd_1327 dX10_takeText_110 ?_
          refine r_bipush (pc := 113) cx dX10_takeText_113 bp_40 ?_
          refine r_iload_n (pc := 115) cx dX10_takeText_115 1 rfl ?_
          refine r_iadd (pc := 116) cx dX10_takeText_116 ?_
          obtain ⟨h40, hf⟩ := chk_of hf
          refine r_iald (pc := 117) cx 10 rfl h40 dX10_takeText_117 ?_
          obtain ⟨x41, ex41, hf⟩ := nm_of hf
          refine r_nm ex41 ?_
          obtain ⟨h42, hf⟩ := chk_of hf
          obtain ⟨f43, ef43, hf⟩ := nm_of hf
          refine r_iast (pc := 118) (ws' := [((q 0), ob 9 [.int (M_thrown v1), .ref (q 1), .int (M_taped (M_tp v1)), .ref (q 2), .ref (q 3), .ref (q 4), .ref (q 5), .ref (q 6), .ref (q 7), .ref (q 8), .ref (q 9), .ref (q 10), .ref (q 11), .ref (q 12), .ref (q 13), .ref (q 14), .int (M_lines (M_rd v1)), .int (M_size (M_rd v1)), .int (M_at (M_rd v1)), .int (M_place (M_rd v1)), .int (M_sort (M_rd v1)), .int (M_value (M_rd v1)), .int (M_fault (M_rd v1)), .int (M_faultPlace (M_rd v1)), .int (M_lastFault (M_lf v1)), .int (M_lastPlace (M_lf v1)), .ref (q 15), .ref (q 16), .ref (q 17), .ref (q 18), .int (M_hasImage (M_im v1)), .int (M_spanNow (M_rn v1)), .ref (q 19), .int (M_placeThen (M_rn v1)), .int (M_alonePlace (M_al v1)), .int (M_aloneSteps (M_al v1)), .int (M_aloneOut (M_al v1)), .ref (q 20), .ref (q 21), .ref (q 22), .ref (q 23), .int (M_shotAlarm (M_ex v1)), .int (M_drawn (M_ex v1))]), ((q 1), aI K 700 (M_tape (M_tp v1))), ((q 2), aI K 20 f5), ((q 3), aZ K 5 (M_isTold (M_rd v1))), ((q 4), aI K 80 f27), ((q 5), aI K 80 f31), ((q 6), aI K 80 f35), ((q 7), aI K 80 f39), ((q 8), aI K 80 (M_codeName (M_cd v1))), ((q 9), aI K 80 (M_codePlace (M_cd v1))), ((q 10), aI K 80 f43), ((q 11), aI K 280 (M_labelName (M_cd v1))), ((q 12), aI K 280 (M_labelAt (M_cd v1))), ((q 13), aI K 64 (M_data (M_cd v1))), ((q 14), aZ K 32 (M_hasData (M_rd v1))), ((q 15), aI K 314 (M_s (M_rn v1))), ((q 16), aI K 314 (M_aside (M_ex v1))), ((q 17), aI K 314 (M_further (M_ex v1))), ((q 18), aI K 314 (M_image (M_im v1))), ((q 19), aI K 3 (M_sizeNow (M_rn v1))), ((q 20), aI K 8 (M_aloneRegister (M_al v1))), ((q 21), aI K 4 (M_aloneReal (M_al v1))), ((q 22), aI K 32 (M_aloneMemory (M_al v1))), ((q 23), aI K 999 (M_aloneOutput (M_al v1)))]) cx 10 rfl h42 dX10_takeText_118 ef43 rfl ?_
          obtain ⟨x44, ex44, hf⟩ := nm_of hf
          refine r_iinc (pc := 119) (loc' := [(1, .int x44), (0, .ref (q 0))]) (v := x44) cx dX10_takeText_119 1 rfl ((congrArg (fun z => x12 + z) ic_1).trans ex44.symm) (by decide) rfl ?_
          refine r_goto (pc := 122) (tgt := 38) cx dX10_takeText_122 (by decide) ?_
          refine r_loc (loc' := [(0, .ref (q 0)), (1, .int x44)]) [1, 0] rfl ?_
          exact ih38 _ _ _ _ _ _ hf
    refine r_loc (loc' := [(0, .ref (q 0)), (1, .int (0 : Int32))]) [1, 0] rfl ?_
    refine hL38 _ (fun f18 f19 f20 f21 f22 hf => ?_) _ _ _ _ _ _ _ hf
    refine r_iconst (pc := 125) cx dX10_takeText_125 ic_0 ?_
    refine r_istore_n (pc := 126) (loc' := [(1, .int (0 : Int32)), (0, .ref (q 0))]) cx dX10_takeText_126 rfl (by decide) rfl ?_
    have hL127 : ∀ (k127_172 : (Nat → Int32) → (Nat → Int32) → Option (T_M)), (∀ (f48 : (Nat → Int32)) (f49 : (Nat → Int32)), k127_172 f48 f49 = some o_v → WW p l e rm_M_takeText s m args below meth c D A 2 0 0 (MQ below (QV D K A (cl_M K q o_v)) args s 0 0 A) ([((q 0), ob 9 [.int (M_thrown v1), .ref (q 1), .int (M_taped (M_tp v1)), .ref (q 2), .ref (q 3), .ref (q 4), .ref (q 5), .ref (q 6), .ref (q 7), .ref (q 8), .ref (q 9), .ref (q 10), .ref (q 11), .ref (q 12), .ref (q 13), .ref (q 14), .int (M_lines (M_rd v1)), .int (M_size (M_rd v1)), .int (M_at (M_rd v1)), .int (M_place (M_rd v1)), .int (M_sort (M_rd v1)), .int (M_value (M_rd v1)), .int (M_fault (M_rd v1)), .int (M_faultPlace (M_rd v1)), .int (M_lastFault (M_lf v1)), .int (M_lastPlace (M_lf v1)), .ref (q 15), .ref (q 16), .ref (q 17), .ref (q 18), .int (M_hasImage (M_im v1)), .int (M_spanNow (M_rn v1)), .ref (q 19), .int (M_placeThen (M_rn v1)), .int (M_alonePlace (M_al v1)), .int (M_aloneSteps (M_al v1)), .int (M_aloneOut (M_al v1)), .ref (q 20), .ref (q 21), .ref (q 22), .ref (q 23), .int (M_shotAlarm (M_ex v1)), .int (M_drawn (M_ex v1))]), ((q 1), aI K 700 (M_tape (M_tp v1))), ((q 2), aI K 20 f5), ((q 3), aZ K 5 (M_isTold (M_rd v1))), ((q 4), aI K 80 f21), ((q 5), aI K 80 f18), ((q 6), aI K 80 f19), ((q 7), aI K 80 f20), ((q 8), aI K 80 (M_codeName (M_cd v1))), ((q 9), aI K 80 (M_codePlace (M_cd v1))), ((q 10), aI K 80 f22), ((q 11), aI K 280 f49), ((q 12), aI K 280 f48), ((q 13), aI K 64 (M_data (M_cd v1))), ((q 14), aZ K 32 (M_hasData (M_rd v1))), ((q 15), aI K 314 (M_s (M_rn v1))), ((q 16), aI K 314 (M_aside (M_ex v1))), ((q 17), aI K 314 (M_further (M_ex v1))), ((q 18), aI K 314 (M_image (M_im v1))), ((q 19), aI K 3 (M_sizeNow (M_rn v1))), ((q 20), aI K 8 (M_aloneRegister (M_al v1))), ((q 21), aI K 4 (M_aloneReal (M_al v1))), ((q 22), aI K 32 (M_aloneMemory (M_al v1))), ((q 23), aI K 999 (M_aloneOutput (M_al v1)))]) ([(0, .ref (q 0))]) ([]) 172) → ∀ (n127 : Nat) (x45 : Int32) (f46 : (Nat → Int32)) (f47 : (Nat → Int32)), f_M_takeText_L127 k127_172 n127 x45 f46 f47 = some o_v → WW p l e rm_M_takeText s m args below meth c D A 2 0 0 (MQ below (QV D K A (cl_M K q o_v)) args s 0 0 A) ([((q 0), ob 9 [.int (M_thrown v1), .ref (q 1), .int (M_taped (M_tp v1)), .ref (q 2), .ref (q 3), .ref (q 4), .ref (q 5), .ref (q 6), .ref (q 7), .ref (q 8), .ref (q 9), .ref (q 10), .ref (q 11), .ref (q 12), .ref (q 13), .ref (q 14), .int (M_lines (M_rd v1)), .int (M_size (M_rd v1)), .int (M_at (M_rd v1)), .int (M_place (M_rd v1)), .int (M_sort (M_rd v1)), .int (M_value (M_rd v1)), .int (M_fault (M_rd v1)), .int (M_faultPlace (M_rd v1)), .int (M_lastFault (M_lf v1)), .int (M_lastPlace (M_lf v1)), .ref (q 15), .ref (q 16), .ref (q 17), .ref (q 18), .int (M_hasImage (M_im v1)), .int (M_spanNow (M_rn v1)), .ref (q 19), .int (M_placeThen (M_rn v1)), .int (M_alonePlace (M_al v1)), .int (M_aloneSteps (M_al v1)), .int (M_aloneOut (M_al v1)), .ref (q 20), .ref (q 21), .ref (q 22), .ref (q 23), .int (M_shotAlarm (M_ex v1)), .int (M_drawn (M_ex v1))]), ((q 1), aI K 700 (M_tape (M_tp v1))), ((q 2), aI K 20 f5), ((q 3), aZ K 5 (M_isTold (M_rd v1))), ((q 4), aI K 80 f21), ((q 5), aI K 80 f18), ((q 6), aI K 80 f19), ((q 7), aI K 80 f20), ((q 8), aI K 80 (M_codeName (M_cd v1))), ((q 9), aI K 80 (M_codePlace (M_cd v1))), ((q 10), aI K 80 f22), ((q 11), aI K 280 f47), ((q 12), aI K 280 f46), ((q 13), aI K 64 (M_data (M_cd v1))), ((q 14), aZ K 32 (M_hasData (M_rd v1))), ((q 15), aI K 314 (M_s (M_rn v1))), ((q 16), aI K 314 (M_aside (M_ex v1))), ((q 17), aI K 314 (M_further (M_ex v1))), ((q 18), aI K 314 (M_image (M_im v1))), ((q 19), aI K 3 (M_sizeNow (M_rn v1))), ((q 20), aI K 8 (M_aloneRegister (M_al v1))), ((q 21), aI K 4 (M_aloneReal (M_al v1))), ((q 22), aI K 32 (M_aloneMemory (M_al v1))), ((q 23), aI K 999 (M_aloneOutput (M_al v1)))]) ([(0, .ref (q 0)), (1, .int x45)]) ([]) 127 := by
      intro k127_172 hk127_172 n127
      induction n127 with
      | zero => intro x45 f46 f47 hf; exact (nomatch (show (none : Option (T_M)) = some _ from hf))
      | succ n127 ih127 =>
        intro x45 f46 f47 hf
        rw [f_M_takeText_L127] at hf
        refine r_iload_n (pc := 127) cx dX10_takeText_127 1 rfl ?_
        refine r_sipush (pc := 128) cx dX10_takeText_128 sp_140 ?_
        refine r_icmp_ge (pc := 131) (tgt := 172) cx dX10_takeText_131 (by decide) (fun h50 => ?_) (fun h50 => ?_)
        · have hf := ifp h50 hf
          refine r_loc (loc' := [(0, .ref (q 0))]) [0] rfl ?_
          exact hk127_172 _ _ hf
        · have hf := ifn h50 hf
          refine r_aload_n (pc := 134) cx dX10_takeText_134 0 rfl ?_
          refine r_get (pc := 135) cx cf_X10 0 12 rfl (by decide) rfl wd_1328 dX10_takeText_135 ?_
          refine r_iload_n (pc := 138) cx dX10_takeText_138 1 rfl ?_
          refine r_aload_n (pc := 139) cx dX10_takeText_139 0 rfl ?_
          refine r_get (pc := 140) cx cf_X10 0 12 rfl (by decide) rfl wd_1328 dX10_takeText_140 ?_
          refine r_sipush (pc := 143) cx dX10_takeText_143 sp_140 ?_
          refine r_iload_n (pc := 146) cx dX10_takeText_146 1 rfl ?_
          refine r_iadd (pc := 147) cx dX10_takeText_147 ?_
          obtain ⟨h51, hf⟩ := chk_of hf
          refine r_iald (pc := 148) cx 11 rfl h51 dX10_takeText_148 ?_
          obtain ⟨x52, ex52, hf⟩ := nm_of hf
          refine r_nm ex52 ?_
          obtain ⟨h53, hf⟩ := chk_of hf
          obtain ⟨f54, ef54, hf⟩ := nm_of hf
          refine r_iast (pc := 149) (ws' := [((q 0), ob 9 [.int (M_thrown v1), .ref (q 1), .int (M_taped (M_tp v1)), .ref (q 2), .ref (q 3), .ref (q 4), .ref (q 5), .ref (q 6), .ref (q 7), .ref (q 8), .ref (q 9), .ref (q 10), .ref (q 11), .ref (q 12), .ref (q 13), .ref (q 14), .int (M_lines (M_rd v1)), .int (M_size (M_rd v1)), .int (M_at (M_rd v1)), .int (M_place (M_rd v1)), .int (M_sort (M_rd v1)), .int (M_value (M_rd v1)), .int (M_fault (M_rd v1)), .int (M_faultPlace (M_rd v1)), .int (M_lastFault (M_lf v1)), .int (M_lastPlace (M_lf v1)), .ref (q 15), .ref (q 16), .ref (q 17), .ref (q 18), .int (M_hasImage (M_im v1)), .int (M_spanNow (M_rn v1)), .ref (q 19), .int (M_placeThen (M_rn v1)), .int (M_alonePlace (M_al v1)), .int (M_aloneSteps (M_al v1)), .int (M_aloneOut (M_al v1)), .ref (q 20), .ref (q 21), .ref (q 22), .ref (q 23), .int (M_shotAlarm (M_ex v1)), .int (M_drawn (M_ex v1))]), ((q 1), aI K 700 (M_tape (M_tp v1))), ((q 2), aI K 20 f5), ((q 3), aZ K 5 (M_isTold (M_rd v1))), ((q 4), aI K 80 f21), ((q 5), aI K 80 f18), ((q 6), aI K 80 f19), ((q 7), aI K 80 f20), ((q 8), aI K 80 (M_codeName (M_cd v1))), ((q 9), aI K 80 (M_codePlace (M_cd v1))), ((q 10), aI K 80 f22), ((q 11), aI K 280 f54), ((q 12), aI K 280 f46), ((q 13), aI K 64 (M_data (M_cd v1))), ((q 14), aZ K 32 (M_hasData (M_rd v1))), ((q 15), aI K 314 (M_s (M_rn v1))), ((q 16), aI K 314 (M_aside (M_ex v1))), ((q 17), aI K 314 (M_further (M_ex v1))), ((q 18), aI K 314 (M_image (M_im v1))), ((q 19), aI K 3 (M_sizeNow (M_rn v1))), ((q 20), aI K 8 (M_aloneRegister (M_al v1))), ((q 21), aI K 4 (M_aloneReal (M_al v1))), ((q 22), aI K 32 (M_aloneMemory (M_al v1))), ((q 23), aI K 999 (M_aloneOutput (M_al v1)))]) cx 11 rfl h53 dX10_takeText_149 ef54 rfl ?_
          refine r_aload_n (pc := 150) cx dX10_takeText_150 0 rfl ?_
          refine r_get (pc := 151) cx cf_X10 0 13 rfl (by decide) rfl wd_1329 dX10_takeText_151 ?_
          refine r_iload_n (pc := 154) cx dX10_takeText_154 1 rfl ?_
          refine r_aload_n (pc := 155) cx dX10_takeText_155 0 rfl ?_
          refine r_get (pc := 156) cx cf_X10 0 13 rfl (by decide) rfl wd_1329 dX10_takeText_156 ?_
          refine r_sipush (pc := 159) cx dX10_takeText_159 sp_140 ?_
          refine r_iload_n (pc := 162) cx dX10_takeText_162 1 rfl ?_
          refine r_iadd (pc := 163) cx dX10_takeText_163 ?_
          obtain ⟨h55, hf⟩ := chk_of hf
          refine r_iald (pc := 164) cx 12 rfl h55 dX10_takeText_164 ?_
          obtain ⟨x56, ex56, hf⟩ := nm_of hf
          refine r_nm ex56 ?_
          obtain ⟨h57, hf⟩ := chk_of hf
          obtain ⟨f58, ef58, hf⟩ := nm_of hf
          refine r_iast (pc := 165) (ws' := [((q 0), ob 9 [.int (M_thrown v1), .ref (q 1), .int (M_taped (M_tp v1)), .ref (q 2), .ref (q 3), .ref (q 4), .ref (q 5), .ref (q 6), .ref (q 7), .ref (q 8), .ref (q 9), .ref (q 10), .ref (q 11), .ref (q 12), .ref (q 13), .ref (q 14), .int (M_lines (M_rd v1)), .int (M_size (M_rd v1)), .int (M_at (M_rd v1)), .int (M_place (M_rd v1)), .int (M_sort (M_rd v1)), .int (M_value (M_rd v1)), .int (M_fault (M_rd v1)), .int (M_faultPlace (M_rd v1)), .int (M_lastFault (M_lf v1)), .int (M_lastPlace (M_lf v1)), .ref (q 15), .ref (q 16), .ref (q 17), .ref (q 18), .int (M_hasImage (M_im v1)), .int (M_spanNow (M_rn v1)), .ref (q 19), .int (M_placeThen (M_rn v1)), .int (M_alonePlace (M_al v1)), .int (M_aloneSteps (M_al v1)), .int (M_aloneOut (M_al v1)), .ref (q 20), .ref (q 21), .ref (q 22), .ref (q 23), .int (M_shotAlarm (M_ex v1)), .int (M_drawn (M_ex v1))]), ((q 1), aI K 700 (M_tape (M_tp v1))), ((q 2), aI K 20 f5), ((q 3), aZ K 5 (M_isTold (M_rd v1))), ((q 4), aI K 80 f21), ((q 5), aI K 80 f18), ((q 6), aI K 80 f19), ((q 7), aI K 80 f20), ((q 8), aI K 80 (M_codeName (M_cd v1))), ((q 9), aI K 80 (M_codePlace (M_cd v1))), ((q 10), aI K 80 f22), ((q 11), aI K 280 f54), ((q 12), aI K 280 f58), ((q 13), aI K 64 (M_data (M_cd v1))), ((q 14), aZ K 32 (M_hasData (M_rd v1))), ((q 15), aI K 314 (M_s (M_rn v1))), ((q 16), aI K 314 (M_aside (M_ex v1))), ((q 17), aI K 314 (M_further (M_ex v1))), ((q 18), aI K 314 (M_image (M_im v1))), ((q 19), aI K 3 (M_sizeNow (M_rn v1))), ((q 20), aI K 8 (M_aloneRegister (M_al v1))), ((q 21), aI K 4 (M_aloneReal (M_al v1))), ((q 22), aI K 32 (M_aloneMemory (M_al v1))), ((q 23), aI K 999 (M_aloneOutput (M_al v1)))]) cx 12 rfl h57 dX10_takeText_165 ef58 rfl ?_
          obtain ⟨x59, ex59, hf⟩ := nm_of hf
          refine r_iinc (pc := 166) (loc' := [(1, .int x59), (0, .ref (q 0))]) (v := x59) cx dX10_takeText_166 1 rfl ((congrArg (fun z => x45 + z) ic_1).trans ex59.symm) (by decide) rfl ?_
          refine r_goto (pc := 169) (tgt := 127) cx dX10_takeText_169 (by decide) ?_
          refine r_loc (loc' := [(0, .ref (q 0)), (1, .int x59)]) [1, 0] rfl ?_
          exact ih127 _ _ _ hf
    refine r_loc (loc' := [(0, .ref (q 0)), (1, .int (0 : Int32))]) [1, 0] rfl ?_
    refine hL127 _ (fun f48 f49 hf => ?_) _ _ _ _ hf
    refine r_iconst (pc := 172) cx dX10_takeText_172 ic_0 ?_
    refine r_istore_n (pc := 173) (loc' := [(1, .int (0 : Int32)), (0, .ref (q 0))]) cx dX10_takeText_173 rfl (by decide) rfl ?_
    have hL174 : ∀ (k174_201 : (Nat → Int32) → Option (T_M)), (∀ (f62 : (Nat → Int32)), k174_201 f62 = some o_v → WW p l e rm_M_takeText s m args below meth c D A 2 0 0 (MQ below (QV D K A (cl_M K q o_v)) args s 0 0 A) ([((q 0), ob 9 [.int (M_thrown v1), .ref (q 1), .int (M_taped (M_tp v1)), .ref (q 2), .ref (q 3), .ref (q 4), .ref (q 5), .ref (q 6), .ref (q 7), .ref (q 8), .ref (q 9), .ref (q 10), .ref (q 11), .ref (q 12), .ref (q 13), .ref (q 14), .int (M_lines (M_rd v1)), .int (M_size (M_rd v1)), .int (M_at (M_rd v1)), .int (M_place (M_rd v1)), .int (M_sort (M_rd v1)), .int (M_value (M_rd v1)), .int (M_fault (M_rd v1)), .int (M_faultPlace (M_rd v1)), .int (M_lastFault (M_lf v1)), .int (M_lastPlace (M_lf v1)), .ref (q 15), .ref (q 16), .ref (q 17), .ref (q 18), .int (M_hasImage (M_im v1)), .int (M_spanNow (M_rn v1)), .ref (q 19), .int (M_placeThen (M_rn v1)), .int (M_alonePlace (M_al v1)), .int (M_aloneSteps (M_al v1)), .int (M_aloneOut (M_al v1)), .ref (q 20), .ref (q 21), .ref (q 22), .ref (q 23), .int (M_shotAlarm (M_ex v1)), .int (M_drawn (M_ex v1))]), ((q 1), aI K 700 (M_tape (M_tp v1))), ((q 2), aI K 20 f5), ((q 3), aZ K 5 (M_isTold (M_rd v1))), ((q 4), aI K 80 f21), ((q 5), aI K 80 f18), ((q 6), aI K 80 f19), ((q 7), aI K 80 f20), ((q 8), aI K 80 (M_codeName (M_cd v1))), ((q 9), aI K 80 (M_codePlace (M_cd v1))), ((q 10), aI K 80 f22), ((q 11), aI K 280 f49), ((q 12), aI K 280 f48), ((q 13), aI K 64 f62), ((q 14), aZ K 32 (M_hasData (M_rd v1))), ((q 15), aI K 314 (M_s (M_rn v1))), ((q 16), aI K 314 (M_aside (M_ex v1))), ((q 17), aI K 314 (M_further (M_ex v1))), ((q 18), aI K 314 (M_image (M_im v1))), ((q 19), aI K 3 (M_sizeNow (M_rn v1))), ((q 20), aI K 8 (M_aloneRegister (M_al v1))), ((q 21), aI K 4 (M_aloneReal (M_al v1))), ((q 22), aI K 32 (M_aloneMemory (M_al v1))), ((q 23), aI K 999 (M_aloneOutput (M_al v1)))]) ([]) ([]) 201) → ∀ (n174 : Nat) (x60 : Int32) (f61 : (Nat → Int32)), f_M_takeText_L174 k174_201 n174 x60 f61 = some o_v → WW p l e rm_M_takeText s m args below meth c D A 2 0 0 (MQ below (QV D K A (cl_M K q o_v)) args s 0 0 A) ([((q 0), ob 9 [.int (M_thrown v1), .ref (q 1), .int (M_taped (M_tp v1)), .ref (q 2), .ref (q 3), .ref (q 4), .ref (q 5), .ref (q 6), .ref (q 7), .ref (q 8), .ref (q 9), .ref (q 10), .ref (q 11), .ref (q 12), .ref (q 13), .ref (q 14), .int (M_lines (M_rd v1)), .int (M_size (M_rd v1)), .int (M_at (M_rd v1)), .int (M_place (M_rd v1)), .int (M_sort (M_rd v1)), .int (M_value (M_rd v1)), .int (M_fault (M_rd v1)), .int (M_faultPlace (M_rd v1)), .int (M_lastFault (M_lf v1)), .int (M_lastPlace (M_lf v1)), .ref (q 15), .ref (q 16), .ref (q 17), .ref (q 18), .int (M_hasImage (M_im v1)), .int (M_spanNow (M_rn v1)), .ref (q 19), .int (M_placeThen (M_rn v1)), .int (M_alonePlace (M_al v1)), .int (M_aloneSteps (M_al v1)), .int (M_aloneOut (M_al v1)), .ref (q 20), .ref (q 21), .ref (q 22), .ref (q 23), .int (M_shotAlarm (M_ex v1)), .int (M_drawn (M_ex v1))]), ((q 1), aI K 700 (M_tape (M_tp v1))), ((q 2), aI K 20 f5), ((q 3), aZ K 5 (M_isTold (M_rd v1))), ((q 4), aI K 80 f21), ((q 5), aI K 80 f18), ((q 6), aI K 80 f19), ((q 7), aI K 80 f20), ((q 8), aI K 80 (M_codeName (M_cd v1))), ((q 9), aI K 80 (M_codePlace (M_cd v1))), ((q 10), aI K 80 f22), ((q 11), aI K 280 f49), ((q 12), aI K 280 f48), ((q 13), aI K 64 f61), ((q 14), aZ K 32 (M_hasData (M_rd v1))), ((q 15), aI K 314 (M_s (M_rn v1))), ((q 16), aI K 314 (M_aside (M_ex v1))), ((q 17), aI K 314 (M_further (M_ex v1))), ((q 18), aI K 314 (M_image (M_im v1))), ((q 19), aI K 3 (M_sizeNow (M_rn v1))), ((q 20), aI K 8 (M_aloneRegister (M_al v1))), ((q 21), aI K 4 (M_aloneReal (M_al v1))), ((q 22), aI K 32 (M_aloneMemory (M_al v1))), ((q 23), aI K 999 (M_aloneOutput (M_al v1)))]) ([(0, .ref (q 0)), (1, .int x60)]) ([]) 174 := by
      intro k174_201 hk174_201 n174
      induction n174 with
      | zero => intro x60 f61 hf; exact (nomatch (show (none : Option (T_M)) = some _ from hf))
      | succ n174 ih174 =>
        intro x60 f61 hf
        rw [f_M_takeText_L174] at hf
        refine r_iload_n (pc := 174) cx dX10_takeText_174 1 rfl ?_
        refine r_bipush (pc := 175) cx dX10_takeText_175 bp_32 ?_
        refine r_icmp_ge (pc := 177) (tgt := 201) cx dX10_takeText_177 (by decide) (fun h63 => ?_) (fun h63 => ?_)
        · have hf := ifp h63 hf
          refine r_loc (loc' := []) [] rfl ?_
          exact hk174_201 _ hf
        · have hf := ifn h63 hf
          refine r_aload_n (pc := 180) cx dX10_takeText_180 0 rfl ?_
          refine r_get (pc := 181) cx cf_X10 0 14 rfl (by decide) rfl wd_1330 dX10_takeText_181 ?_
          refine r_iload_n (pc := 184) cx dX10_takeText_184 1 rfl ?_
          refine r_aload_n (pc := 185) cx dX10_takeText_185 0 rfl ?_
          refine r_get (pc := 186) cx cf_X10 0 14 rfl (by decide) rfl wd_1330 dX10_takeText_186 ?_
          refine r_bipush (pc := 189) cx dX10_takeText_189 bp_32 ?_
          refine r_iload_n (pc := 191) cx dX10_takeText_191 1 rfl ?_
          refine r_iadd (pc := 192) cx dX10_takeText_192 ?_
          obtain ⟨h64, hf⟩ := chk_of hf
          refine r_iald (pc := 193) cx 13 rfl h64 dX10_takeText_193 ?_
          obtain ⟨x65, ex65, hf⟩ := nm_of hf
          refine r_nm ex65 ?_
          obtain ⟨h66, hf⟩ := chk_of hf
          obtain ⟨f67, ef67, hf⟩ := nm_of hf
          refine r_iast (pc := 194) (ws' := [((q 0), ob 9 [.int (M_thrown v1), .ref (q 1), .int (M_taped (M_tp v1)), .ref (q 2), .ref (q 3), .ref (q 4), .ref (q 5), .ref (q 6), .ref (q 7), .ref (q 8), .ref (q 9), .ref (q 10), .ref (q 11), .ref (q 12), .ref (q 13), .ref (q 14), .int (M_lines (M_rd v1)), .int (M_size (M_rd v1)), .int (M_at (M_rd v1)), .int (M_place (M_rd v1)), .int (M_sort (M_rd v1)), .int (M_value (M_rd v1)), .int (M_fault (M_rd v1)), .int (M_faultPlace (M_rd v1)), .int (M_lastFault (M_lf v1)), .int (M_lastPlace (M_lf v1)), .ref (q 15), .ref (q 16), .ref (q 17), .ref (q 18), .int (M_hasImage (M_im v1)), .int (M_spanNow (M_rn v1)), .ref (q 19), .int (M_placeThen (M_rn v1)), .int (M_alonePlace (M_al v1)), .int (M_aloneSteps (M_al v1)), .int (M_aloneOut (M_al v1)), .ref (q 20), .ref (q 21), .ref (q 22), .ref (q 23), .int (M_shotAlarm (M_ex v1)), .int (M_drawn (M_ex v1))]), ((q 1), aI K 700 (M_tape (M_tp v1))), ((q 2), aI K 20 f5), ((q 3), aZ K 5 (M_isTold (M_rd v1))), ((q 4), aI K 80 f21), ((q 5), aI K 80 f18), ((q 6), aI K 80 f19), ((q 7), aI K 80 f20), ((q 8), aI K 80 (M_codeName (M_cd v1))), ((q 9), aI K 80 (M_codePlace (M_cd v1))), ((q 10), aI K 80 f22), ((q 11), aI K 280 f49), ((q 12), aI K 280 f48), ((q 13), aI K 64 f67), ((q 14), aZ K 32 (M_hasData (M_rd v1))), ((q 15), aI K 314 (M_s (M_rn v1))), ((q 16), aI K 314 (M_aside (M_ex v1))), ((q 17), aI K 314 (M_further (M_ex v1))), ((q 18), aI K 314 (M_image (M_im v1))), ((q 19), aI K 3 (M_sizeNow (M_rn v1))), ((q 20), aI K 8 (M_aloneRegister (M_al v1))), ((q 21), aI K 4 (M_aloneReal (M_al v1))), ((q 22), aI K 32 (M_aloneMemory (M_al v1))), ((q 23), aI K 999 (M_aloneOutput (M_al v1)))]) cx 13 rfl h66 dX10_takeText_194 ef67 rfl ?_
          obtain ⟨x68, ex68, hf⟩ := nm_of hf
          refine r_iinc (pc := 195) (loc' := [(1, .int x68), (0, .ref (q 0))]) (v := x68) cx dX10_takeText_195 1 rfl ((congrArg (fun z => x60 + z) ic_1).trans ex68.symm) (by decide) rfl ?_
          refine r_goto (pc := 198) (tgt := 174) cx dX10_takeText_198 (by decide) ?_
          refine r_loc (loc' := [(0, .ref (q 0)), (1, .int x68)]) [1, 0] rfl ?_
          exact ih174 _ _ hf
    refine r_loc (loc' := [(0, .ref (q 0)), (1, .int (0 : Int32))]) [1, 0] rfl ?_
    refine hL174 _ (fun f62 hf => ?_) _ _ _ hf
    cases hf
    exact r_vret (pc := 201) cx rfl dX10_takeText_201
  refine r_if_ne (pc := 4) (tgt := 11) cx dX10_takeText_4 (by decide) (fun h69 => ?_) (fun h69 => ?_)
  · have hf := ifn h69 hf
    exact hJ2 _ hf
  · have hf := ifp h69 hf
    refine r_aload_n (pc := 7) cx dX10_takeText_7 0 rfl ?_
    obtain ⟨v70, hc71, hf⟩ := bd_of hf
    refine r_Vv (pc := 8) (ws' := [((q 0), ob 9 [.int (M_thrown v70), .ref (q 1), .int (M_taped (M_tp v70)), .ref (q 2), .ref (q 3), .ref (q 4), .ref (q 5), .ref (q 6), .ref (q 7), .ref (q 8), .ref (q 9), .ref (q 10), .ref (q 11), .ref (q 12), .ref (q 13), .ref (q 14), .int (M_lines (M_rd v70)), .int (M_size (M_rd v70)), .int (M_at (M_rd v70)), .int (M_place (M_rd v70)), .int (M_sort (M_rd v70)), .int (M_value (M_rd v70)), .int (M_fault (M_rd v70)), .int (M_faultPlace (M_rd v70)), .int (M_lastFault (M_lf v70)), .int (M_lastPlace (M_lf v70)), .ref (q 15), .ref (q 16), .ref (q 17), .ref (q 18), .int (M_hasImage (M_im v70)), .int (M_spanNow (M_rn v70)), .ref (q 19), .int (M_placeThen (M_rn v70)), .int (M_alonePlace (M_al v70)), .int (M_aloneSteps (M_al v70)), .int (M_aloneOut (M_al v70)), .ref (q 20), .ref (q 21), .ref (q 22), .ref (q 23), .int (M_shotAlarm (M_ex v70)), .int (M_drawn (M_ex v70))]), ((q 1), aI K 700 (M_tape (M_tp v70))), ((q 2), aI K 20 (M_number (M_cd v70))), ((q 3), aZ K 5 (M_isTold (M_rd v70))), ((q 4), aI K 80 (M_codeSort (M_cd v70))), ((q 5), aI K 80 (M_codeA (M_cd v70))), ((q 6), aI K 80 (M_codeB (M_cd v70))), ((q 7), aI K 80 (M_codeC (M_cd v70))), ((q 8), aI K 80 (M_codeName (M_cd v70))), ((q 9), aI K 80 (M_codePlace (M_cd v70))), ((q 10), aI K 80 (M_codeTo (M_cd v70))), ((q 11), aI K 280 (M_labelName (M_cd v70))), ((q 12), aI K 280 (M_labelAt (M_cd v70))), ((q 13), aI K 64 (M_data (M_cd v70))), ((q 14), aZ K 32 (M_hasData (M_rd v70))), ((q 15), aI K 314 (M_s (M_rn v70))), ((q 16), aI K 314 (M_aside (M_ex v70))), ((q 17), aI K 314 (M_further (M_ex v70))), ((q 18), aI K 314 (M_image (M_im v70))), ((q 19), aI K 3 (M_sizeNow (M_rn v70))), ((q 20), aI K 8 (M_aloneRegister (M_al v70))), ((q 21), aI K 4 (M_aloneReal (M_al v70))), ((q 22), aI K 32 (M_aloneMemory (M_al v70))), ((q 23), aI K 999 (M_aloneOutput (M_al v70)))]) cx [] [] [0, 1, 2, 3, 4, 5, 6, 7, 8, 9, 10, 11, 12, 13, 14, 15, 16, 17, 18, 19, 20, 21, 22, 23] (m_M_freshText l D K q v hc71) yv_X10_freshText wd_1296 ⟨rfl, rfl⟩ (by decide) rfl rfl rfl (by decide) 0 rfl rfl rfl (Nat.le_of_ble_eq_true rfl) dX10_takeText_8 ?_
    exact hJ2 _ hf
theorem yv_X10_takeText : YV yX10_takeText cX10_takeText 2 (none) 0 := ⟨⟨by decide +kernel, by decide +kernel, by decide +kernel⟩, wd_1295, wd_102, wd_1294, wd_25⟩
def f_M_fault (v : T_M) (a1 : Int32) : Option (Int32 × T_M) :=
  (if a1 = (0 : Int32) then (some ((M_lastFault (M_lf v)), ((M_tp v), (M_rd v), (M_lf v), (M_cd v), (M_rn v), (M_ex v), (M_im v), (M_al v), (0 : Int32)))) else (if a1 = (1 : Int32) then (some ((M_lastPlace (M_lf v)), ((M_tp v), (M_rd v), (M_lf v), (M_cd v), (M_rn v), (M_ex v), (M_im v), (M_al v), (0 : Int32)))) else (some ((-1 : Int32), ((M_tp v), (M_rd v), (M_lf v), (M_cd v), (M_rn v), (M_ex v), (M_im v), (M_al v), (0 : Int32))))))
abbrev rm_M_fault : Room := { frames := 0, cells := 0, slots := 0, locals := 0 }
set_option maxRecDepth 100000 in
set_option maxHeartbeats 4000000 in
theorem m_M_fault (l : Launch) (D : va_G) (K : Nat → ClassId) (q : Nat → Nat) (v : T_M) (a1 : Int32) {r_ : Int32} {o_v : T_M} (hf : f_M_fault v a1 = some (r_, o_v)) : MI l yX10_fault cX10_fault 2 (some .int) rm_M_fault D K [.ref (q 0), .int a1] (cl_M K q v) r_ (cl_M K q o_v) := by
  refine MI_of (loc0 := [(0, .ref (q 0)), (1, .int a1)]) (by decide +kernel) rfl (Nat.le_of_ble_eq_true rfl) ?_
  intro p e s m args below meth c A cx
  unfold f_M_fault at hf
  refine r_ws (ws' := [((q 0), ob 9 [.int (M_thrown v), .ref (q 1), .int (M_taped (M_tp v)), .ref (q 2), .ref (q 3), .ref (q 4), .ref (q 5), .ref (q 6), .ref (q 7), .ref (q 8), .ref (q 9), .ref (q 10), .ref (q 11), .ref (q 12), .ref (q 13), .ref (q 14), .int (M_lines (M_rd v)), .int (M_size (M_rd v)), .int (M_at (M_rd v)), .int (M_place (M_rd v)), .int (M_sort (M_rd v)), .int (M_value (M_rd v)), .int (M_fault (M_rd v)), .int (M_faultPlace (M_rd v)), .int (M_lastFault (M_lf v)), .int (M_lastPlace (M_lf v)), .ref (q 15), .ref (q 16), .ref (q 17), .ref (q 18), .int (M_hasImage (M_im v)), .int (M_spanNow (M_rn v)), .ref (q 19), .int (M_placeThen (M_rn v)), .int (M_alonePlace (M_al v)), .int (M_aloneSteps (M_al v)), .int (M_aloneOut (M_al v)), .ref (q 20), .ref (q 21), .ref (q 22), .ref (q 23), .int (M_shotAlarm (M_ex v)), .int (M_drawn (M_ex v))]), ((q 1), aI K 700 (M_tape (M_tp v))), ((q 2), aI K 20 (M_number (M_cd v))), ((q 3), aZ K 5 (M_isTold (M_rd v))), ((q 4), aI K 80 (M_codeSort (M_cd v))), ((q 5), aI K 80 (M_codeA (M_cd v))), ((q 6), aI K 80 (M_codeB (M_cd v))), ((q 7), aI K 80 (M_codeC (M_cd v))), ((q 8), aI K 80 (M_codeName (M_cd v))), ((q 9), aI K 80 (M_codePlace (M_cd v))), ((q 10), aI K 80 (M_codeTo (M_cd v))), ((q 11), aI K 280 (M_labelName (M_cd v))), ((q 12), aI K 280 (M_labelAt (M_cd v))), ((q 13), aI K 64 (M_data (M_cd v))), ((q 14), aZ K 32 (M_hasData (M_rd v))), ((q 15), aI K 314 (M_s (M_rn v))), ((q 16), aI K 314 (M_aside (M_ex v))), ((q 17), aI K 314 (M_further (M_ex v))), ((q 18), aI K 314 (M_image (M_im v))), ((q 19), aI K 3 (M_sizeNow (M_rn v))), ((q 20), aI K 8 (M_aloneRegister (M_al v))), ((q 21), aI K 4 (M_aloneReal (M_al v))), ((q 22), aI K 32 (M_aloneMemory (M_al v))), ((q 23), aI K 999 (M_aloneOutput (M_al v)))]) rfl ?_
  refine r_aload_n (pc := 0) cx dX10_fault_0 0 rfl ?_
  refine r_iconst (pc := 1) cx dX10_fault_1 ic_0 ?_
  refine r_putI (pc := 2) (ws' := [((q 0), ob 9 [.int (0 : Int32), .ref (q 1), .int (M_taped (M_tp v)), .ref (q 2), .ref (q 3), .ref (q 4), .ref (q 5), .ref (q 6), .ref (q 7), .ref (q 8), .ref (q 9), .ref (q 10), .ref (q 11), .ref (q 12), .ref (q 13), .ref (q 14), .int (M_lines (M_rd v)), .int (M_size (M_rd v)), .int (M_at (M_rd v)), .int (M_place (M_rd v)), .int (M_sort (M_rd v)), .int (M_value (M_rd v)), .int (M_fault (M_rd v)), .int (M_faultPlace (M_rd v)), .int (M_lastFault (M_lf v)), .int (M_lastPlace (M_lf v)), .ref (q 15), .ref (q 16), .ref (q 17), .ref (q 18), .int (M_hasImage (M_im v)), .int (M_spanNow (M_rn v)), .ref (q 19), .int (M_placeThen (M_rn v)), .int (M_alonePlace (M_al v)), .int (M_aloneSteps (M_al v)), .int (M_aloneOut (M_al v)), .ref (q 20), .ref (q 21), .ref (q 22), .ref (q 23), .int (M_shotAlarm (M_ex v)), .int (M_drawn (M_ex v))]), ((q 1), aI K 700 (M_tape (M_tp v))), ((q 2), aI K 20 (M_number (M_cd v))), ((q 3), aZ K 5 (M_isTold (M_rd v))), ((q 4), aI K 80 (M_codeSort (M_cd v))), ((q 5), aI K 80 (M_codeA (M_cd v))), ((q 6), aI K 80 (M_codeB (M_cd v))), ((q 7), aI K 80 (M_codeC (M_cd v))), ((q 8), aI K 80 (M_codeName (M_cd v))), ((q 9), aI K 80 (M_codePlace (M_cd v))), ((q 10), aI K 80 (M_codeTo (M_cd v))), ((q 11), aI K 280 (M_labelName (M_cd v))), ((q 12), aI K 280 (M_labelAt (M_cd v))), ((q 13), aI K 64 (M_data (M_cd v))), ((q 14), aZ K 32 (M_hasData (M_rd v))), ((q 15), aI K 314 (M_s (M_rn v))), ((q 16), aI K 314 (M_aside (M_ex v))), ((q 17), aI K 314 (M_further (M_ex v))), ((q 18), aI K 314 (M_image (M_im v))), ((q 19), aI K 3 (M_sizeNow (M_rn v))), ((q 20), aI K 8 (M_aloneRegister (M_al v))), ((q 21), aI K 4 (M_aloneReal (M_al v))), ((q 22), aI K 32 (M_aloneMemory (M_al v))), ((q 23), aI K 999 (M_aloneOutput (M_al v)))]) cx cf_X10 0 0 rfl (by decide) (Nat.le_of_ble_eq_true rfl) rfl pfd_I wd_1316 dX10_fault_2 rfl ?_
  refine r_iload_n (pc := 5) cx dX10_fault_5 1 rfl ?_
  refine r_if_ne (pc := 6) (tgt := 16) cx dX10_fault_6 (by decide) (fun h1 => ?_) (fun h1 => ?_)
  · have hf := ifn h1 hf
    refine r_iload_n (pc := 16) cx dX10_fault_16 1 rfl ?_
    refine r_iconst (pc := 17) cx dX10_fault_17 ic_1 ?_
    refine r_icmp_ne (pc := 18) (tgt := 28) cx dX10_fault_18 (by decide) (fun h2 => ?_) (fun h2 => ?_)
    · have hf := ifn h2 hf
      refine r_iconst (pc := 28) cx dX10_fault_28 ic_m1 ?_
      cases hf
      exact r_iret (pc := 29) cx rfl rfl dX10_fault_29
    · have hf := ifp h2 hf
      refine r_aload_n (pc := 21) cx dX10_fault_21 0 rfl ?_
      refine r_get (pc := 22) cx cf_X10 0 25 rfl (by decide) rfl wd_1341 dX10_fault_22 ?_
      refine r_goto (pc := 25) (tgt := 29) cx dX10_fault_25 (by decide) ?_
      cases hf
      exact r_iret (pc := 29) cx rfl rfl dX10_fault_29
  · have hf := ifp h1 hf
    refine r_aload_n (pc := 9) cx dX10_fault_9 0 rfl ?_
    refine r_get (pc := 10) cx cf_X10 0 24 rfl (by decide) rfl wd_1340 dX10_fault_10 ?_
    refine r_goto (pc := 13) (tgt := 29) cx dX10_fault_13 (by decide) ?_
    cases hf
    exact r_iret (pc := 29) cx rfl rfl dX10_fault_29
theorem yv_X10_fault : YV yX10_fault cX10_fault 2 (some .int) 1 := ⟨⟨by decide +kernel, by decide +kernel, by decide +kernel⟩, wd_1559, wd_102, wd_1557, wd_1558⟩
def f_M_named (v : T_M) (a1 : Int32) : Option (Int32 × T_M) :=
  (bd (f_M_labelled ((M_tp v), (M_rd v), (M_lf v), (M_cd v), (M_rn v), (M_ex v), (M_im v), (M_al v), (0 : Int32)) (0 : Int32) ((M_number (M_cd v)) (9 : Int32).toNatClampNeg) a1) fun (r1 : Int32) => (if r1 = (-1 : Int32) then (some ((-1 : Int32), ((M_tp v), (M_rd v), (M_lf v), (M_cd v), (M_rn v), (M_ex v), (M_im v), (M_al v), (0 : Int32)))) else (if ix r1 280 then (some (((M_labelAt (M_cd v)) r1.toNatClampNeg), ((M_tp v), (M_rd v), (M_lf v), (M_cd v), (M_rn v), (M_ex v), (M_im v), (M_al v), (0 : Int32)))) else none)))
abbrev rm_M_named : Room := { frames := 1, cells := 0, slots := 0, locals := 24 }
set_option maxRecDepth 100000 in
set_option maxHeartbeats 4000000 in
theorem m_M_named (l : Launch) (D : va_G) (K : Nat → ClassId) (q : Nat → Nat) (v : T_M) (a1 : Int32) {r_ : Int32} {o_v : T_M} (hf : f_M_named v a1 = some (r_, o_v)) : MI l yX10_named cX10_named 3 (some .int) rm_M_named D K [.ref (q 0), .int a1] (cl_M K q v) r_ (cl_M K q o_v) := by
  refine MI_of (loc0 := [(0, .ref (q 0)), (1, .int a1)]) (by decide +kernel) rfl (Nat.le_of_ble_eq_true rfl) ?_
  intro p e s m args below meth c A cx
  unfold f_M_named at hf
  refine r_ws (ws' := [((q 0), ob 9 [.int (M_thrown v), .ref (q 1), .int (M_taped (M_tp v)), .ref (q 2), .ref (q 3), .ref (q 4), .ref (q 5), .ref (q 6), .ref (q 7), .ref (q 8), .ref (q 9), .ref (q 10), .ref (q 11), .ref (q 12), .ref (q 13), .ref (q 14), .int (M_lines (M_rd v)), .int (M_size (M_rd v)), .int (M_at (M_rd v)), .int (M_place (M_rd v)), .int (M_sort (M_rd v)), .int (M_value (M_rd v)), .int (M_fault (M_rd v)), .int (M_faultPlace (M_rd v)), .int (M_lastFault (M_lf v)), .int (M_lastPlace (M_lf v)), .ref (q 15), .ref (q 16), .ref (q 17), .ref (q 18), .int (M_hasImage (M_im v)), .int (M_spanNow (M_rn v)), .ref (q 19), .int (M_placeThen (M_rn v)), .int (M_alonePlace (M_al v)), .int (M_aloneSteps (M_al v)), .int (M_aloneOut (M_al v)), .ref (q 20), .ref (q 21), .ref (q 22), .ref (q 23), .int (M_shotAlarm (M_ex v)), .int (M_drawn (M_ex v))]), ((q 1), aI K 700 (M_tape (M_tp v))), ((q 2), aI K 20 (M_number (M_cd v))), ((q 3), aZ K 5 (M_isTold (M_rd v))), ((q 4), aI K 80 (M_codeSort (M_cd v))), ((q 5), aI K 80 (M_codeA (M_cd v))), ((q 6), aI K 80 (M_codeB (M_cd v))), ((q 7), aI K 80 (M_codeC (M_cd v))), ((q 8), aI K 80 (M_codeName (M_cd v))), ((q 9), aI K 80 (M_codePlace (M_cd v))), ((q 10), aI K 80 (M_codeTo (M_cd v))), ((q 11), aI K 280 (M_labelName (M_cd v))), ((q 12), aI K 280 (M_labelAt (M_cd v))), ((q 13), aI K 64 (M_data (M_cd v))), ((q 14), aZ K 32 (M_hasData (M_rd v))), ((q 15), aI K 314 (M_s (M_rn v))), ((q 16), aI K 314 (M_aside (M_ex v))), ((q 17), aI K 314 (M_further (M_ex v))), ((q 18), aI K 314 (M_image (M_im v))), ((q 19), aI K 3 (M_sizeNow (M_rn v))), ((q 20), aI K 8 (M_aloneRegister (M_al v))), ((q 21), aI K 4 (M_aloneReal (M_al v))), ((q 22), aI K 32 (M_aloneMemory (M_al v))), ((q 23), aI K 999 (M_aloneOutput (M_al v)))]) rfl ?_
  refine r_aload_n (pc := 0) cx dX10_named_0 0 rfl ?_
  refine r_iconst (pc := 1) cx dX10_named_1 ic_0 ?_
  refine r_putI (pc := 2) (ws' := [((q 0), ob 9 [.int (0 : Int32), .ref (q 1), .int (M_taped (M_tp v)), .ref (q 2), .ref (q 3), .ref (q 4), .ref (q 5), .ref (q 6), .ref (q 7), .ref (q 8), .ref (q 9), .ref (q 10), .ref (q 11), .ref (q 12), .ref (q 13), .ref (q 14), .int (M_lines (M_rd v)), .int (M_size (M_rd v)), .int (M_at (M_rd v)), .int (M_place (M_rd v)), .int (M_sort (M_rd v)), .int (M_value (M_rd v)), .int (M_fault (M_rd v)), .int (M_faultPlace (M_rd v)), .int (M_lastFault (M_lf v)), .int (M_lastPlace (M_lf v)), .ref (q 15), .ref (q 16), .ref (q 17), .ref (q 18), .int (M_hasImage (M_im v)), .int (M_spanNow (M_rn v)), .ref (q 19), .int (M_placeThen (M_rn v)), .int (M_alonePlace (M_al v)), .int (M_aloneSteps (M_al v)), .int (M_aloneOut (M_al v)), .ref (q 20), .ref (q 21), .ref (q 22), .ref (q 23), .int (M_shotAlarm (M_ex v)), .int (M_drawn (M_ex v))]), ((q 1), aI K 700 (M_tape (M_tp v))), ((q 2), aI K 20 (M_number (M_cd v))), ((q 3), aZ K 5 (M_isTold (M_rd v))), ((q 4), aI K 80 (M_codeSort (M_cd v))), ((q 5), aI K 80 (M_codeA (M_cd v))), ((q 6), aI K 80 (M_codeB (M_cd v))), ((q 7), aI K 80 (M_codeC (M_cd v))), ((q 8), aI K 80 (M_codeName (M_cd v))), ((q 9), aI K 80 (M_codePlace (M_cd v))), ((q 10), aI K 80 (M_codeTo (M_cd v))), ((q 11), aI K 280 (M_labelName (M_cd v))), ((q 12), aI K 280 (M_labelAt (M_cd v))), ((q 13), aI K 64 (M_data (M_cd v))), ((q 14), aZ K 32 (M_hasData (M_rd v))), ((q 15), aI K 314 (M_s (M_rn v))), ((q 16), aI K 314 (M_aside (M_ex v))), ((q 17), aI K 314 (M_further (M_ex v))), ((q 18), aI K 314 (M_image (M_im v))), ((q 19), aI K 3 (M_sizeNow (M_rn v))), ((q 20), aI K 8 (M_aloneRegister (M_al v))), ((q 21), aI K 4 (M_aloneReal (M_al v))), ((q 22), aI K 32 (M_aloneMemory (M_al v))), ((q 23), aI K 999 (M_aloneOutput (M_al v)))]) cx cf_X10 0 0 rfl (by decide) (Nat.le_of_ble_eq_true rfl) rfl pfd_I wd_1316 dX10_named_2 rfl ?_
  refine r_aload_n (pc := 5) cx dX10_named_5 0 rfl ?_
  refine r_iconst (pc := 6) cx dX10_named_6 ic_0 ?_
  refine r_aload_n (pc := 7) cx dX10_named_7 0 rfl ?_
  refine r_get (pc := 8) cx cf_X10 0 3 rfl (by decide) rfl wd_1319 dX10_named_8 ?_
  refine r_bipush (pc := 11) cx dX10_named_11 bp_9 ?_
  refine r_iald (pc := 13) cx 2 rfl (by decide) dX10_named_13 ?_
  refine r_iload_n (pc := 14) cx dX10_named_14 1 rfl ?_
  obtain ⟨r1, hc2, hf⟩ := bd_of hf
  refine r_Vi (pc := 15) (ws' := [((q 0), ob 9 [.int (0 : Int32), .ref (q 1), .int (M_taped (M_tp v)), .ref (q 2), .ref (q 3), .ref (q 4), .ref (q 5), .ref (q 6), .ref (q 7), .ref (q 8), .ref (q 9), .ref (q 10), .ref (q 11), .ref (q 12), .ref (q 13), .ref (q 14), .int (M_lines (M_rd v)), .int (M_size (M_rd v)), .int (M_at (M_rd v)), .int (M_place (M_rd v)), .int (M_sort (M_rd v)), .int (M_value (M_rd v)), .int (M_fault (M_rd v)), .int (M_faultPlace (M_rd v)), .int (M_lastFault (M_lf v)), .int (M_lastPlace (M_lf v)), .ref (q 15), .ref (q 16), .ref (q 17), .ref (q 18), .int (M_hasImage (M_im v)), .int (M_spanNow (M_rn v)), .ref (q 19), .int (M_placeThen (M_rn v)), .int (M_alonePlace (M_al v)), .int (M_aloneSteps (M_al v)), .int (M_aloneOut (M_al v)), .ref (q 20), .ref (q 21), .ref (q 22), .ref (q 23), .int (M_shotAlarm (M_ex v)), .int (M_drawn (M_ex v))]), ((q 1), aI K 700 (M_tape (M_tp v))), ((q 2), aI K 20 (M_number (M_cd v))), ((q 3), aZ K 5 (M_isTold (M_rd v))), ((q 4), aI K 80 (M_codeSort (M_cd v))), ((q 5), aI K 80 (M_codeA (M_cd v))), ((q 6), aI K 80 (M_codeB (M_cd v))), ((q 7), aI K 80 (M_codeC (M_cd v))), ((q 8), aI K 80 (M_codeName (M_cd v))), ((q 9), aI K 80 (M_codePlace (M_cd v))), ((q 10), aI K 80 (M_codeTo (M_cd v))), ((q 11), aI K 280 (M_labelName (M_cd v))), ((q 12), aI K 280 (M_labelAt (M_cd v))), ((q 13), aI K 64 (M_data (M_cd v))), ((q 14), aZ K 32 (M_hasData (M_rd v))), ((q 15), aI K 314 (M_s (M_rn v))), ((q 16), aI K 314 (M_aside (M_ex v))), ((q 17), aI K 314 (M_further (M_ex v))), ((q 18), aI K 314 (M_image (M_im v))), ((q 19), aI K 3 (M_sizeNow (M_rn v))), ((q 20), aI K 8 (M_aloneRegister (M_al v))), ((q 21), aI K 4 (M_aloneReal (M_al v))), ((q 22), aI K 32 (M_aloneMemory (M_al v))), ((q 23), aI K 999 (M_aloneOutput (M_al v)))]) cx [.int (0 : Int32), .int ((M_number (M_cd v)) (9 : Int32).toNatClampNeg), .int a1] [] [0, 1, 2, 3, 4, 5, 6, 7, 8, 9, 10, 11, 12, 13, 14, 15, 16, 17, 18, 19, 20, 21, 22, 23] (m_M_labelled l D K q ((M_tp v), (M_rd v), (M_lf v), (M_cd v), (M_rn v), (M_ex v), (M_im v), (M_al v), (0 : Int32)) (0 : Int32) ((M_number (M_cd v)) (9 : Int32).toNatClampNeg) a1 hc2) yv_X10_labelled wd_1533 ⟨rfl, rfl⟩ (by decide) rfl rfl rfl (by decide) 0 rfl rfl rfl (Nat.le_of_ble_eq_true rfl) dX10_named_15 ?_
  refine r_istore_n (pc := 18) (loc' := [(2, .int r1), (0, .ref (q 0)), (1, .int a1)]) cx dX10_named_18 rfl (by decide) rfl ?_
  refine r_iload_n (pc := 19) cx dX10_named_19 0 rfl ?_
  refine r_iconst (pc := 20) cx dX10_named_20 ic_m1 ?_
  refine r_icmp_ne (pc := 21) (tgt := 28) cx dX10_named_21 (by decide) (fun h3 => ?_) (fun h3 => ?_)
  · have hf := ifn h3 hf
    refine r_aload_n (pc := 28) cx dX10_named_28 1 rfl ?_
    refine r_get (pc := 29) cx cf_X10 0 13 rfl (by decide) rfl wd_1329 dX10_named_29 ?_
    refine r_iload_n (pc := 32) cx dX10_named_32 0 rfl ?_
    obtain ⟨h4, hf⟩ := chk_of hf
    refine r_iald (pc := 33) cx 12 rfl h4 dX10_named_33 ?_
    cases hf
    exact r_iret (pc := 34) cx rfl rfl dX10_named_34
  · have hf := ifp h3 hf
    refine r_iconst (pc := 24) cx dX10_named_24 ic_m1 ?_
    refine r_goto (pc := 25) (tgt := 34) cx dX10_named_25 (by decide) ?_
    cases hf
    exact r_iret (pc := 34) cx rfl rfl dX10_named_34
theorem yv_X10_named : YV yX10_named cX10_named 3 (some .int) 1 := ⟨⟨by decide +kernel, by decide +kernel, by decide +kernel⟩, wd_1563, wd_102, wd_1561, wd_1562⟩
def f_M_isLost (a0 : Int32) : Option (Int32) :=
  (if (a0 &&& (2139095040 : Int32)) = (2139095040 : Int32) then (some (1 : Int32)) else (some (0 : Int32)))
abbrev rm_M_isLost : Room := { frames := 0, cells := 0, slots := 0, locals := 0 }
set_option maxRecDepth 100000 in
set_option maxHeartbeats 4000000 in
theorem m_M_isLost (l : Launch) (D : va_G) (K : Nat → ClassId) (a0 : Int32) {r_ : Int32} (hf : f_M_isLost a0 = some r_) : MI l yX10_isLost cX10_isLost 1 (some .boolean) rm_M_isLost D K [.int a0] ([]) r_ ([]) := by
  refine MI_of (loc0 := [(0, .int a0)]) (by decide +kernel) rfl (Nat.le_of_ble_eq_true rfl) ?_
  intro p e s m args below meth c A cx
  unfold f_M_isLost at hf
  refine r_ws (ws' := []) rfl ?_
  refine r_iload_n (pc := 0) cx dX10_isLost_0 0 rfl ?_
  refine r_ldc (pc := 1) cx dX10_isLost_1 wd_1646 ?_
  refine r_iand (pc := 3) cx dX10_isLost_3 ?_
  refine r_ldc (pc := 4) cx dX10_isLost_4 wd_1646 ?_
  refine r_icmp_ne (pc := 6) (tgt := 13) cx dX10_isLost_6 (by decide) (fun h1 => ?_) (fun h1 => ?_)
  · have hf := ifn h1 hf
    refine r_iconst (pc := 13) cx dX10_isLost_13 ic_0 ?_
    cases hf
    exact r_zret (pc := 14) cx (Or.inl rfl) rfl rfl dX10_isLost_14
  · have hf := ifp h1 hf
    refine r_iconst (pc := 9) cx dX10_isLost_9 ic_1 ?_
    refine r_goto (pc := 10) (tgt := 14) cx dX10_isLost_10 (by decide) ?_
    cases hf
    exact r_zret (pc := 14) cx (Or.inr rfl) rfl rfl dX10_isLost_14
theorem ys_X10_isLost : YS yX10_isLost cX10_isLost 1 (some .boolean) 1 := ⟨⟨by decide +kernel, by decide +kernel, by decide +kernel⟩, wd_1645, wd_102, wd_1644⟩
def f_M_worth (a0 : Int32) : Option (UInt64) :=
  (if vn_sni2f a0 = false then (if n64 (FP.f2d ((a0).toUInt32)) then (some (FP.f2d ((a0).toUInt32))) else none) else none)
abbrev rm_M_worth : Room := { frames := 1, cells := 0, slots := 0, locals := 34 }
set_option maxRecDepth 100000 in
set_option maxHeartbeats 4000000 in
theorem m_M_worth (l : Launch) (D : va_G) (K : Nat → ClassId) (a0 : Int32) {r_ : UInt64} (hf : f_M_worth a0 = some r_) : MD l yX10_worth cX10_worth 1 (some .double) rm_M_worth D K [.int a0] ([]) r_ ([]) := by
  refine MD_of (loc0 := [(0, .int a0)]) (by decide +kernel) rfl (Nat.le_of_ble_eq_true rfl) ?_
  intro p e s m args below meth c A cx
  unfold f_M_worth at hf
  refine r_ws (ws' := []) rfl ?_
  refine r_iload_n (pc := 0) cx dX10_worth_0 0 rfl ?_
  obtain ⟨h1, hf⟩ := chk_of hf
  refine r_bits2f (pc := 1) cx h1 wd_1650 wd_1652 wd_1651 wd_108 (by decide) (Nat.le_of_ble_eq_true rfl) dX10_worth_1 ?_
  obtain ⟨h2, hf⟩ := chk_of hf
  refine r_f2d (pc := 4) cx dX10_worth_4 h2 ?_
  cases hf
  exact r_dret (pc := 5) cx rfl rfl dX10_worth_5
theorem ys_X10_worth : YS yX10_worth cX10_worth 1 (some .double) 1 := ⟨⟨by decide +kernel, by decide +kernel, by decide +kernel⟩, wd_1649, wd_102, wd_1648⟩
def f_J_isNaN_12338 (a0 : UInt32) : Option (Int32) :=
  (if (Op.cmpValue (FP.fcmp a0 a0) .l) = (0 : Int32) then (some (0 : Int32)) else (some (1 : Int32)))
abbrev rm_J_isNaN_12338 : Room := { frames := 0, cells := 0, slots := 0, locals := 0 }
set_option maxRecDepth 100000 in
set_option maxHeartbeats 4000000 in
theorem m_J_isNaN_12338 (l : Launch) (D : va_G) (K : Nat → ClassId) (a0 : UInt32) {r_ : Int32} (hf : f_J_isNaN_12338 a0 = some r_) : MI l yJxf58ca_isNaN_12338 cJxf58ca_isNaN_12338 1 (some .boolean) rm_J_isNaN_12338 D K [.float a0] ([]) r_ ([]) := by
  refine MI_of (loc0 := [(0, .float a0)]) (by decide +kernel) rfl (Nat.le_of_ble_eq_true rfl) ?_
  intro p e s m args below meth c A cx
  unfold f_J_isNaN_12338 at hf
  refine r_ws (ws' := []) rfl ?_
  refine r_fload_n (pc := 0) cx dJxf58ca_isNaN_12338_0 0 rfl ?_
  refine r_fload_n (pc := 1) cx dJxf58ca_isNaN_12338_1 0 rfl ?_
  refine r_fcmpl (pc := 2) cx dJxf58ca_isNaN_12338_2 ?_
  refine r_if_eq (pc := 3) (tgt := 10) cx dJxf58ca_isNaN_12338_3 (by decide) (fun h1 => ?_) (fun h1 => ?_)
  · have hf := ifp h1 hf
    refine r_iconst (pc := 10) cx dJxf58ca_isNaN_12338_10 ic_0 ?_
    cases hf
    exact r_zret (pc := 11) cx (Or.inl rfl) rfl rfl dJxf58ca_isNaN_12338_11
  · have hf := ifn h1 hf
    refine r_iconst (pc := 6) cx dJxf58ca_isNaN_12338_6 ic_1 ?_
    refine r_goto (pc := 7) (tgt := 11) cx dJxf58ca_isNaN_12338_7 (by decide) ?_
    cases hf
    exact r_zret (pc := 11) cx (Or.inr rfl) rfl rfl dJxf58ca_isNaN_12338_11
theorem ys_Jxf58ca_isNaN_12338 : YS yJxf58ca_isNaN_12338 cJxf58ca_isNaN_12338 1 (some .boolean) 1 := ⟨⟨by decide +kernel, by decide +kernel, by decide +kernel⟩, wd_1635, wd_108, wd_1634⟩
def f_J_floatToIntBits_5c35a (a0 : UInt32) : Option (Int32) :=
  (bd (f_J_isNaN_12338 a0) fun (r1 : Int32) => (if r1 = (0 : Int32) then (some ((a0).toInt32)) else (some (2143289344 : Int32))))
abbrev rm_J_floatToIntBits_5c35a : Room := { frames := 1, cells := 0, slots := 0, locals := 34 }
set_option maxRecDepth 100000 in
set_option maxHeartbeats 4000000 in
theorem m_J_floatToIntBits_5c35a (l : Launch) (D : va_G) (K : Nat → ClassId) (a0 : UInt32) {r_ : Int32} (hf : f_J_floatToIntBits_5c35a a0 = some r_) : MI l yJxf58ca_floatToIntBits_5c35a cJxf58ca_floatToIntBits_5c35a 1 (some .int) rm_J_floatToIntBits_5c35a D K [.float a0] ([]) r_ ([]) := by
  refine MI_of (loc0 := [(0, .float a0)]) (by decide +kernel) rfl (Nat.le_of_ble_eq_true rfl) ?_
  intro p e s m args below meth c A cx
  unfold f_J_floatToIntBits_5c35a at hf
  refine r_ws (ws' := []) rfl ?_
  refine r_fload_n (pc := 0) cx dJxf58ca_floatToIntBits_5c35a_0 0 rfl ?_
  obtain ⟨r1, hc2, hf⟩ := bd_of hf
  refine r_Si (pc := 1) (ws' := []) cx [.float a0] [] [] (m_J_isNaN_12338 l D K a0 hc2) ys_Jxf58ca_isNaN_12338 wd_1633 ⟨rfl, rfl⟩ (by decide) rfl rfl rfl (by decide) rfl (Nat.le_of_ble_eq_true rfl) dJxf58ca_floatToIntBits_5c35a_1 ?_
  refine r_if_ne (pc := 4) (tgt := 12) cx dJxf58ca_floatToIntBits_5c35a_4 (by decide) (fun h3 => ?_) (fun h3 => ?_)
  · have hf := ifn h3 hf
    refine r_ldc (pc := 12) cx dJxf58ca_floatToIntBits_5c35a_12 wd_1639 ?_
    cases hf
    exact r_iret (pc := 14) cx rfl rfl dJxf58ca_floatToIntBits_5c35a_14
  · have hf := ifp h3 hf
    refine r_fload_n (pc := 7) cx dJxf58ca_floatToIntBits_5c35a_7 0 rfl ?_
    refine r_f2bits (pc := 8) cx wd_1636 wd_1638 wd_1637 wd_108 (by decide) (Nat.le_of_ble_eq_true rfl) dJxf58ca_floatToIntBits_5c35a_8 ?_
    cases hf
    exact r_iret (pc := 11) cx rfl rfl dJxf58ca_floatToIntBits_5c35a_11
theorem ys_Jxf58ca_floatToIntBits_5c35a : YS yJxf58ca_floatToIntBits_5c35a cJxf58ca_floatToIntBits_5c35a 1 (some .int) 1 := ⟨⟨by decide +kernel, by decide +kernel, by decide +kernel⟩, wd_1632, wd_108, wd_1631⟩
def f_M_cut (a0 : UInt64) : Option (Int32) :=
  (if n32 (FP.d2f a0) then (bd (f_J_floatToIntBits_5c35a (FP.d2f a0)) fun (r2 : Int32) => (some r2)) else none)
abbrev rm_M_cut : Room := { frames := 2, cells := 0, slots := 0, locals := 54 }
set_option maxRecDepth 100000 in
set_option maxHeartbeats 4000000 in
theorem m_M_cut (l : Launch) (D : va_G) (K : Nat → ClassId) (a0 : UInt64) {r_ : Int32} (hf : f_M_cut a0 = some r_) : MI l yX10_cut cX10_cut 2 (some .int) rm_M_cut D K [.double a0] ([]) r_ ([]) := by
  refine MI_of (loc0 := [(0, .double a0)]) (by decide +kernel) rfl (Nat.le_of_ble_eq_true rfl) ?_
  intro p e s m args below meth c A cx
  unfold f_M_cut at hf
  refine r_ws (ws' := []) rfl ?_
  refine r_dload_n (pc := 0) cx dX10_cut_0 0 rfl ?_
  obtain ⟨h1, hf⟩ := chk_of hf
  refine r_d2f (pc := 1) cx dX10_cut_1 h1 ?_
  obtain ⟨r2, hc3, hf⟩ := bd_of hf
  refine r_Si (pc := 2) (ws' := []) cx [.float (FP.d2f a0)] [] [] (m_J_floatToIntBits_5c35a l D K (FP.d2f a0) hc3) ys_Jxf58ca_floatToIntBits_5c35a wd_1630 ⟨rfl, rfl⟩ (by decide) rfl rfl rfl (by decide) rfl (Nat.le_of_ble_eq_true rfl) dX10_cut_2 ?_
  cases hf
  exact r_iret (pc := 5) cx rfl rfl dX10_cut_5
theorem ys_X10_cut : YS yX10_cut cX10_cut 2 (some .int) 1 := ⟨⟨by decide +kernel, by decide +kernel, by decide +kernel⟩, wd_1629, wd_102, wd_1628⟩
def f_M_added (a0 : Int32) (a1 : Int32) : Option (Int32) :=
  (bd (f_M_isLost a0) fun (r1 : Int32) => (if r1 = (0 : Int32) then (bd (f_M_isLost a1) fun (r4 : Int32) => (if r4 = (0 : Int32) then (bd (f_M_worth a0) fun (r7 : UInt64) => (bd (f_M_worth a1) fun (r9 : UInt64) => (if n64 (FP.dadd r7 r9) then (bd (f_M_cut (FP.dadd r7 r9)) fun (r12 : Int32) => (some r12)) else none))) else (some (2143289344 : Int32)))) else (some (2143289344 : Int32))))
abbrev rm_M_added : Room := { frames := 3, cells := 0, slots := 0, locals := 75 }
set_option maxRecDepth 100000 in
set_option maxHeartbeats 4000000 in
theorem m_M_added (l : Launch) (D : va_G) (K : Nat → ClassId) (a0 : Int32) (a1 : Int32) {r_ : Int32} (hf : f_M_added a0 a1 = some r_) : MI l yX10_added cX10_added 2 (some .int) rm_M_added D K [.int a0, .int a1] ([]) r_ ([]) := by
  refine MI_of (loc0 := [(0, .int a0), (1, .int a1)]) (by decide +kernel) rfl (Nat.le_of_ble_eq_true rfl) ?_
  intro p e s m args below meth c A cx
  unfold f_M_added at hf
  refine r_ws (ws' := []) rfl ?_
  refine r_iload_n (pc := 0) cx dX10_added_0 0 rfl ?_
  obtain ⟨r1, hc2, hf⟩ := bd_of hf
  refine r_Si (pc := 1) (ws' := []) cx [.int a0] [] [] (m_M_isLost l D K a0 hc2) ys_X10_isLost wd_1643 ⟨rfl, rfl⟩ (by decide) rfl rfl rfl (by decide) rfl (Nat.le_of_ble_eq_true rfl) dX10_added_1 ?_
  refine r_if_ne (pc := 4) (tgt := 14) cx dX10_added_4 (by decide) (fun h3 => ?_) (fun h3 => ?_)
  · have hf := ifn h3 hf
    refine r_ldc (pc := 14) cx dX10_added_14 wd_1656 ?_
    refine r_goto (pc := 16) (tgt := 31) cx dX10_added_16 (by decide) ?_
    cases hf
    exact r_iret (pc := 31) cx rfl rfl dX10_added_31
  · have hf := ifp h3 hf
    refine r_iload_n (pc := 7) cx dX10_added_7 1 rfl ?_
    obtain ⟨r4, hc5, hf⟩ := bd_of hf
    refine r_Si (pc := 8) (ws' := []) cx [.int a1] [] [] (m_M_isLost l D K a1 hc5) ys_X10_isLost wd_1643 ⟨rfl, rfl⟩ (by decide) rfl rfl rfl (by decide) rfl (Nat.le_of_ble_eq_true rfl) dX10_added_8 ?_
    refine r_if_eq (pc := 11) (tgt := 19) cx dX10_added_11 (by decide) (fun h6 => ?_) (fun h6 => ?_)
    · have hf := ifp h6 hf
      refine r_iload_n (pc := 19) cx dX10_added_19 0 rfl ?_
      obtain ⟨r7, hc8, hf⟩ := bd_of hf
      refine r_Sd (pc := 20) (ws' := []) cx [.int a0] [] [] (m_M_worth l D K a0 hc8) ys_X10_worth wd_1647 ⟨rfl, rfl⟩ (by decide) rfl rfl rfl (by decide) rfl (Nat.le_of_ble_eq_true rfl) dX10_added_20 ?_
      refine r_iload_n (pc := 23) cx dX10_added_23 1 rfl ?_
      obtain ⟨r9, hc10, hf⟩ := bd_of hf
      refine r_Sd (pc := 24) (ws' := []) cx [.int a1] [.double r7] [] (m_M_worth l D K a1 hc10) ys_X10_worth wd_1647 ⟨rfl, rfl⟩ (by decide) rfl rfl rfl (by decide) rfl (Nat.le_of_ble_eq_true rfl) dX10_added_24 ?_
      obtain ⟨h11, hf⟩ := chk_of hf
      refine r_dadd (pc := 27) cx dX10_added_27 h11 ?_
      obtain ⟨r12, hc13, hf⟩ := bd_of hf
      refine r_Si (pc := 28) (ws' := []) cx [.double (FP.dadd r7 r9)] [] [] (m_M_cut l D K (FP.dadd r7 r9) hc13) ys_X10_cut wd_1627 ⟨rfl, rfl⟩ (by decide) rfl rfl rfl (by decide) rfl (Nat.le_of_ble_eq_true rfl) dX10_added_28 ?_
      cases hf
      exact r_iret (pc := 31) cx rfl rfl dX10_added_31
    · have hf := ifn h6 hf
      refine r_ldc (pc := 14) cx dX10_added_14 wd_1656 ?_
      refine r_goto (pc := 16) (tgt := 31) cx dX10_added_16 (by decide) ?_
      cases hf
      exact r_iret (pc := 31) cx rfl rfl dX10_added_31
theorem ys_X10_added : YS yX10_added cX10_added 2 (some .int) 2 := ⟨⟨by decide +kernel, by decide +kernel, by decide +kernel⟩, wd_1655, wd_102, wd_1654⟩
def f_M_multiplied (a0 : Int32) (a1 : Int32) : Option (Int32) :=
  (bd (f_M_isLost a0) fun (r1 : Int32) => (if r1 = (0 : Int32) then (bd (f_M_isLost a1) fun (r4 : Int32) => (if r4 = (0 : Int32) then (bd (f_M_worth a0) fun (r7 : UInt64) => (bd (f_M_worth a1) fun (r9 : UInt64) => (if n64 (FP.dmul r7 r9) then (bd (f_M_cut (FP.dmul r7 r9)) fun (r12 : Int32) => (some r12)) else none))) else (some (2143289344 : Int32)))) else (some (2143289344 : Int32))))
abbrev rm_M_multiplied : Room := { frames := 3, cells := 0, slots := 0, locals := 75 }
set_option maxRecDepth 100000 in
set_option maxHeartbeats 4000000 in
theorem m_M_multiplied (l : Launch) (D : va_G) (K : Nat → ClassId) (a0 : Int32) (a1 : Int32) {r_ : Int32} (hf : f_M_multiplied a0 a1 = some r_) : MI l yX10_multiplied cX10_multiplied 2 (some .int) rm_M_multiplied D K [.int a0, .int a1] ([]) r_ ([]) := by
  refine MI_of (loc0 := [(0, .int a0), (1, .int a1)]) (by decide +kernel) rfl (Nat.le_of_ble_eq_true rfl) ?_
  intro p e s m args below meth c A cx
  unfold f_M_multiplied at hf
  refine r_ws (ws' := []) rfl ?_
  refine r_iload_n (pc := 0) cx dX10_multiplied_0 0 rfl ?_
  obtain ⟨r1, hc2, hf⟩ := bd_of hf
  refine r_Si (pc := 1) (ws' := []) cx [.int a0] [] [] (m_M_isLost l D K a0 hc2) ys_X10_isLost wd_1643 ⟨rfl, rfl⟩ (by decide) rfl rfl rfl (by decide) rfl (Nat.le_of_ble_eq_true rfl) dX10_multiplied_1 ?_
  refine r_if_ne (pc := 4) (tgt := 14) cx dX10_multiplied_4 (by decide) (fun h3 => ?_) (fun h3 => ?_)
  · have hf := ifn h3 hf
    refine r_ldc (pc := 14) cx dX10_multiplied_14 wd_1656 ?_
    refine r_goto (pc := 16) (tgt := 31) cx dX10_multiplied_16 (by decide) ?_
    cases hf
    exact r_iret (pc := 31) cx rfl rfl dX10_multiplied_31
  · have hf := ifp h3 hf
    refine r_iload_n (pc := 7) cx dX10_multiplied_7 1 rfl ?_
    obtain ⟨r4, hc5, hf⟩ := bd_of hf
    refine r_Si (pc := 8) (ws' := []) cx [.int a1] [] [] (m_M_isLost l D K a1 hc5) ys_X10_isLost wd_1643 ⟨rfl, rfl⟩ (by decide) rfl rfl rfl (by decide) rfl (Nat.le_of_ble_eq_true rfl) dX10_multiplied_8 ?_
    refine r_if_eq (pc := 11) (tgt := 19) cx dX10_multiplied_11 (by decide) (fun h6 => ?_) (fun h6 => ?_)
    · have hf := ifp h6 hf
      refine r_iload_n (pc := 19) cx dX10_multiplied_19 0 rfl ?_
      obtain ⟨r7, hc8, hf⟩ := bd_of hf
      refine r_Sd (pc := 20) (ws' := []) cx [.int a0] [] [] (m_M_worth l D K a0 hc8) ys_X10_worth wd_1647 ⟨rfl, rfl⟩ (by decide) rfl rfl rfl (by decide) rfl (Nat.le_of_ble_eq_true rfl) dX10_multiplied_20 ?_
      refine r_iload_n (pc := 23) cx dX10_multiplied_23 1 rfl ?_
      obtain ⟨r9, hc10, hf⟩ := bd_of hf
      refine r_Sd (pc := 24) (ws' := []) cx [.int a1] [.double r7] [] (m_M_worth l D K a1 hc10) ys_X10_worth wd_1647 ⟨rfl, rfl⟩ (by decide) rfl rfl rfl (by decide) rfl (Nat.le_of_ble_eq_true rfl) dX10_multiplied_24 ?_
      obtain ⟨h11, hf⟩ := chk_of hf
      refine r_dmul (pc := 27) cx dX10_multiplied_27 h11 ?_
      obtain ⟨r12, hc13, hf⟩ := bd_of hf
      refine r_Si (pc := 28) (ws' := []) cx [.double (FP.dmul r7 r9)] [] [] (m_M_cut l D K (FP.dmul r7 r9) hc13) ys_X10_cut wd_1627 ⟨rfl, rfl⟩ (by decide) rfl rfl rfl (by decide) rfl (Nat.le_of_ble_eq_true rfl) dX10_multiplied_28 ?_
      cases hf
      exact r_iret (pc := 31) cx rfl rfl dX10_multiplied_31
    · have hf := ifn h6 hf
      refine r_ldc (pc := 14) cx dX10_multiplied_14 wd_1656 ?_
      refine r_goto (pc := 16) (tgt := 31) cx dX10_multiplied_16 (by decide) ?_
      cases hf
      exact r_iret (pc := 31) cx rfl rfl dX10_multiplied_31
theorem ys_X10_multiplied : YS yX10_multiplied cX10_multiplied 2 (some .int) 2 := ⟨⟨by decide +kernel, by decide +kernel, by decide +kernel⟩, wd_1659, wd_102, wd_1658⟩
def f_M_whole (a0 : Int32) : Option (Int32) :=
  (bd (f_M_isLost a0) fun (r1 : Int32) => (if r1 = (0 : Int32) then (bd (f_M_worth a0) fun (r4 : UInt64) => (some (FP.d2i r4))) else (some (0 : Int32))))
abbrev rm_M_whole : Room := { frames := 2, cells := 0, slots := 0, locals := 54 }
set_option maxRecDepth 100000 in
set_option maxHeartbeats 4000000 in
theorem m_M_whole (l : Launch) (D : va_G) (K : Nat → ClassId) (a0 : Int32) {r_ : Int32} (hf : f_M_whole a0 = some r_) : MI l yX10_whole cX10_whole 1 (some .int) rm_M_whole D K [.int a0] ([]) r_ ([]) := by
  refine MI_of (loc0 := [(0, .int a0)]) (by decide +kernel) rfl (Nat.le_of_ble_eq_true rfl) ?_
  intro p e s m args below meth c A cx
  unfold f_M_whole at hf
  refine r_ws (ws' := []) rfl ?_
  refine r_iload_n (pc := 0) cx dX10_whole_0 0 rfl ?_
  obtain ⟨r1, hc2, hf⟩ := bd_of hf
  refine r_Si (pc := 1) (ws' := []) cx [.int a0] [] [] (m_M_isLost l D K a0 hc2) ys_X10_isLost wd_1643 ⟨rfl, rfl⟩ (by decide) rfl rfl rfl (by decide) rfl (Nat.le_of_ble_eq_true rfl) dX10_whole_1 ?_
  refine r_if_eq (pc := 4) (tgt := 11) cx dX10_whole_4 (by decide) (fun h3 => ?_) (fun h3 => ?_)
  · have hf := ifp h3 hf
    refine r_iload_n (pc := 11) cx dX10_whole_11 0 rfl ?_
    obtain ⟨r4, hc5, hf⟩ := bd_of hf
    refine r_Sd (pc := 12) (ws' := []) cx [.int a0] [] [] (m_M_worth l D K a0 hc5) ys_X10_worth wd_1647 ⟨rfl, rfl⟩ (by decide) rfl rfl rfl (by decide) rfl (Nat.le_of_ble_eq_true rfl) dX10_whole_12 ?_
    refine r_d2i (pc := 15) cx dX10_whole_15 ?_
    cases hf
    exact r_iret (pc := 16) cx rfl rfl dX10_whole_16
  · have hf := ifn h3 hf
    refine r_iconst (pc := 7) cx dX10_whole_7 ic_0 ?_
    refine r_goto (pc := 8) (tgt := 16) cx dX10_whole_8 (by decide) ?_
    cases hf
    exact r_iret (pc := 16) cx rfl rfl dX10_whole_16
theorem ys_X10_whole : YS yX10_whole cX10_whole 1 (some .int) 1 := ⟨⟨by decide +kernel, by decide +kernel, by decide +kernel⟩, wd_1642, wd_102, wd_1641⟩
def f_M_copies_L2 (a0 : (Nat → Int32)) (k2_21 : (Nat → Int32) → Option ((Nat → Int32))) : Nat → Int32 → (Nat → Int32) → Option ((Nat → Int32))
  | 0, _, _ => none
  | n2 + 1, x1, f2 =>
    (if (314 : Int32) ≤ x1 then (k2_21 f2) else (if ix x1 314 then (nm (a0 x1.toNatClampNeg) fun (x6 : Int32) => (if ix x1 314 then (nm (upd f2 x1.toNatClampNeg x6) fun (f8 : Nat → Int32) => (nm (x1 + (1 : Int32)) fun (x9 : Int32) => (f_M_copies_L2 a0 k2_21 n2 x9 f8))) else none)) else none))
def f_M_copies (a0 : (Nat → Int32)) (a1 : (Nat → Int32)) : Option ((Nat → Int32)) :=
  (f_M_copies_L2 a0 (fun (f3 : (Nat → Int32)) => (some f3)) LF (0 : Int32) a1)
abbrev rm_M_copies : Room := { frames := 0, cells := 0, slots := 0, locals := 0 }
set_option maxRecDepth 100000 in
set_option maxHeartbeats 4000000 in
theorem m_M_copies (l : Launch) (D : va_G) (K : Nat → ClassId) (qa0 : Nat → Nat) (a0 : (Nat → Int32)) (qa1 : Nat → Nat) (a1 : (Nat → Int32)) {o_a1 : (Nat → Int32)} (hf : f_M_copies a0 a1 = some o_a1) : MV l yX10_copies cX10_copies 3 (none) rm_M_copies D K [.ref (qa0 0), .ref (qa1 0)] (cl_R K 314 qa0 a0 ++ (cl_R K 314 qa1 a1)) (cl_R K 314 qa0 a0 ++ (cl_R K 314 qa1 o_a1)) := by
  refine MV_of (loc0 := [(0, .ref (qa0 0)), (1, .ref (qa1 0))]) (by decide +kernel) rfl (Nat.le_of_ble_eq_true rfl) ?_
  intro p e s m args below meth c A cx
  unfold f_M_copies at hf
  refine r_ws (ws' := [((qa0 0), aI K 314 a0), ((qa1 0), aI K 314 a1)]) rfl ?_
  refine r_iconst (pc := 0) cx dX10_copies_0 ic_0 ?_
  refine r_istore_n (pc := 1) (loc' := [(2, .int (0 : Int32)), (0, .ref (qa0 0)), (1, .ref (qa1 0))]) cx dX10_copies_1 rfl (by decide) rfl ?_
  have hL2 : ∀ (k2_21 : (Nat → Int32) → Option ((Nat → Int32))), (∀ (f3 : (Nat → Int32)), k2_21 f3 = some o_a1 → WW p l e rm_M_copies s m args below meth c D A 3 0 0 (MQ below (QV D K A (cl_R K 314 qa0 a0 ++ (cl_R K 314 qa1 o_a1))) args s 0 0 A) ([((qa0 0), aI K 314 a0), ((qa1 0), aI K 314 f3)]) ([]) ([]) 21) → ∀ (n2 : Nat) (x1 : Int32) (f2 : (Nat → Int32)), f_M_copies_L2 a0 k2_21 n2 x1 f2 = some o_a1 → WW p l e rm_M_copies s m args below meth c D A 3 0 0 (MQ below (QV D K A (cl_R K 314 qa0 a0 ++ (cl_R K 314 qa1 o_a1))) args s 0 0 A) ([((qa0 0), aI K 314 a0), ((qa1 0), aI K 314 f2)]) ([(0, .ref (qa0 0)), (1, .ref (qa1 0)), (2, .int x1)]) ([]) 2 := by
    intro k2_21 hk2_21 n2
    induction n2 with
    | zero => intro x1 f2 hf; exact (nomatch (show (none : Option ((Nat → Int32))) = some _ from hf))
    | succ n2 ih2 =>
      intro x1 f2 hf
      rw [f_M_copies_L2] at hf
      refine r_iload_n (pc := 2) cx dX10_copies_2 2 rfl ?_
      refine r_sipush (pc := 3) cx dX10_copies_3 sp_314 ?_
      refine r_icmp_ge (pc := 6) (tgt := 21) cx dX10_copies_6 (by decide) (fun h4 => ?_) (fun h4 => ?_)
      · have hf := ifp h4 hf
        refine r_loc (loc' := []) [] rfl ?_
        exact hk2_21 _ hf
      · have hf := ifn h4 hf
        refine r_aload_n (pc := 9) cx dX10_copies_9 1 rfl ?_
        refine r_iload_n (pc := 10) cx dX10_copies_10 2 rfl ?_
        refine r_aload_n (pc := 11) cx dX10_copies_11 0 rfl ?_
        refine r_iload_n (pc := 12) cx dX10_copies_12 2 rfl ?_
        obtain ⟨h5, hf⟩ := chk_of hf
        refine r_iald (pc := 13) cx 0 rfl h5 dX10_copies_13 ?_
        obtain ⟨x6, ex6, hf⟩ := nm_of hf
        refine r_nm ex6 ?_
        obtain ⟨h7, hf⟩ := chk_of hf
        obtain ⟨f8, ef8, hf⟩ := nm_of hf
        refine r_iast (pc := 14) (ws' := [((qa0 0), aI K 314 a0), ((qa1 0), aI K 314 f8)]) cx 1 rfl h7 dX10_copies_14 ef8 rfl ?_
        obtain ⟨x9, ex9, hf⟩ := nm_of hf
        refine r_iinc (pc := 15) (loc' := [(2, .int x9), (0, .ref (qa0 0)), (1, .ref (qa1 0))]) (v := x9) cx dX10_copies_15 2 rfl ((congrArg (fun z => x1 + z) ic_1).trans ex9.symm) (by decide) rfl ?_
        refine r_goto (pc := 18) (tgt := 2) cx dX10_copies_18 (by decide) ?_
        refine r_loc (loc' := [(0, .ref (qa0 0)), (1, .ref (qa1 0)), (2, .int x9)]) [1, 2, 0] rfl ?_
        exact ih2 _ _ hf
  refine r_loc (loc' := [(0, .ref (qa0 0)), (1, .ref (qa1 0)), (2, .int (0 : Int32))]) [1, 2, 0] rfl ?_
  refine hL2 _ (fun f3 hf => ?_) _ _ _ hf
  cases hf
  exact r_vret (pc := 21) cx rfl dX10_copies_21
theorem ys_X10_copies : YS yX10_copies cX10_copies 3 (none) 2 := ⟨⟨by decide +kernel, by decide +kernel, by decide +kernel⟩, wd_1766, wd_102, wd_1765⟩
def f_M_asTold_L12 (v : T_M) (k12_37 : (Nat → Int32) → Option (T_M)) : Nat → Int32 → (Nat → Int32) → Option (T_M)
  | 0, _, _ => none
  | n12 + 1, x2, f3 =>
    (if (3 : Int32) ≤ x2 then (k12_37 f3) else (if ix ((3 : Int32) + x2) 20 then (nm ((M_number (M_cd v)) (((3 : Int32) + x2)).toNatClampNeg) fun (x7 : Int32) => (if ix x2 3 then (nm (upd f3 x2.toNatClampNeg x7) fun (f9 : Nat → Int32) => (nm (x2 + (1 : Int32)) fun (x10 : Int32) => (f_M_asTold_L12 v k12_37 n12 x10 f9))) else none)) else none))
def f_M_asTold (v : T_M) : Option (T_M) :=
  (nm ((M_number (M_cd v)) (0 : Int32).toNatClampNeg) fun (x1 : Int32) => (f_M_asTold_L12 v (fun (f4 : (Nat → Int32)) => (some ((M_tp v), (M_rd v), (M_lf v), (M_cd v), ((M_s (M_rn v)), x1, f4, (M_placeThen (M_rn v))), (M_ex v), (M_im v), (M_al v), (M_thrown v)))) LF (0 : Int32) (M_sizeNow (M_rn v))))
abbrev rm_M_asTold : Room := { frames := 0, cells := 0, slots := 0, locals := 0 }
set_option maxRecDepth 100000 in
set_option maxHeartbeats 4000000 in
theorem m_M_asTold (l : Launch) (D : va_G) (K : Nat → ClassId) (q : Nat → Nat) (v : T_M) {o_v : T_M} (hf : f_M_asTold v = some o_v) : MV l yX10_asTold cX10_asTold 2 (none) rm_M_asTold D K [.ref (q 0)] (cl_M K q v) (cl_M K q o_v) := by
  refine MV_of (loc0 := [(0, .ref (q 0))]) (by decide +kernel) rfl (Nat.le_of_ble_eq_true rfl) ?_
  intro p e s m args below meth c A cx
  unfold f_M_asTold at hf
  refine r_ws (ws' := [((q 0), ob 9 [.int (M_thrown v), .ref (q 1), .int (M_taped (M_tp v)), .ref (q 2), .ref (q 3), .ref (q 4), .ref (q 5), .ref (q 6), .ref (q 7), .ref (q 8), .ref (q 9), .ref (q 10), .ref (q 11), .ref (q 12), .ref (q 13), .ref (q 14), .int (M_lines (M_rd v)), .int (M_size (M_rd v)), .int (M_at (M_rd v)), .int (M_place (M_rd v)), .int (M_sort (M_rd v)), .int (M_value (M_rd v)), .int (M_fault (M_rd v)), .int (M_faultPlace (M_rd v)), .int (M_lastFault (M_lf v)), .int (M_lastPlace (M_lf v)), .ref (q 15), .ref (q 16), .ref (q 17), .ref (q 18), .int (M_hasImage (M_im v)), .int (M_spanNow (M_rn v)), .ref (q 19), .int (M_placeThen (M_rn v)), .int (M_alonePlace (M_al v)), .int (M_aloneSteps (M_al v)), .int (M_aloneOut (M_al v)), .ref (q 20), .ref (q 21), .ref (q 22), .ref (q 23), .int (M_shotAlarm (M_ex v)), .int (M_drawn (M_ex v))]), ((q 1), aI K 700 (M_tape (M_tp v))), ((q 2), aI K 20 (M_number (M_cd v))), ((q 3), aZ K 5 (M_isTold (M_rd v))), ((q 4), aI K 80 (M_codeSort (M_cd v))), ((q 5), aI K 80 (M_codeA (M_cd v))), ((q 6), aI K 80 (M_codeB (M_cd v))), ((q 7), aI K 80 (M_codeC (M_cd v))), ((q 8), aI K 80 (M_codeName (M_cd v))), ((q 9), aI K 80 (M_codePlace (M_cd v))), ((q 10), aI K 80 (M_codeTo (M_cd v))), ((q 11), aI K 280 (M_labelName (M_cd v))), ((q 12), aI K 280 (M_labelAt (M_cd v))), ((q 13), aI K 64 (M_data (M_cd v))), ((q 14), aZ K 32 (M_hasData (M_rd v))), ((q 15), aI K 314 (M_s (M_rn v))), ((q 16), aI K 314 (M_aside (M_ex v))), ((q 17), aI K 314 (M_further (M_ex v))), ((q 18), aI K 314 (M_image (M_im v))), ((q 19), aI K 3 (M_sizeNow (M_rn v))), ((q 20), aI K 8 (M_aloneRegister (M_al v))), ((q 21), aI K 4 (M_aloneReal (M_al v))), ((q 22), aI K 32 (M_aloneMemory (M_al v))), ((q 23), aI K 999 (M_aloneOutput (M_al v)))]) rfl ?_
  refine r_aload_n (pc := 0) cx dX10_asTold_0 0 rfl ?_
  refine r_aload_n (pc := 1) cx dX10_asTold_1 0 rfl ?_
  refine r_get (pc := 2) cx cf_X10 0 3 rfl (by decide) rfl wd_1319 dX10_asTold_2 ?_
  refine r_iconst (pc := 5) cx dX10_asTold_5 ic_0 ?_
  refine r_iald (pc := 6) cx 2 rfl (by decide) dX10_asTold_6 ?_
  obtain ⟨x1, ex1, hf⟩ := nm_of hf
  refine r_nm ex1 ?_
  refine r_putI (pc := 7) (ws' := [((q 0), ob 9 [.int (M_thrown v), .ref (q 1), .int (M_taped (M_tp v)), .ref (q 2), .ref (q 3), .ref (q 4), .ref (q 5), .ref (q 6), .ref (q 7), .ref (q 8), .ref (q 9), .ref (q 10), .ref (q 11), .ref (q 12), .ref (q 13), .ref (q 14), .int (M_lines (M_rd v)), .int (M_size (M_rd v)), .int (M_at (M_rd v)), .int (M_place (M_rd v)), .int (M_sort (M_rd v)), .int (M_value (M_rd v)), .int (M_fault (M_rd v)), .int (M_faultPlace (M_rd v)), .int (M_lastFault (M_lf v)), .int (M_lastPlace (M_lf v)), .ref (q 15), .ref (q 16), .ref (q 17), .ref (q 18), .int (M_hasImage (M_im v)), .int x1, .ref (q 19), .int (M_placeThen (M_rn v)), .int (M_alonePlace (M_al v)), .int (M_aloneSteps (M_al v)), .int (M_aloneOut (M_al v)), .ref (q 20), .ref (q 21), .ref (q 22), .ref (q 23), .int (M_shotAlarm (M_ex v)), .int (M_drawn (M_ex v))]), ((q 1), aI K 700 (M_tape (M_tp v))), ((q 2), aI K 20 (M_number (M_cd v))), ((q 3), aZ K 5 (M_isTold (M_rd v))), ((q 4), aI K 80 (M_codeSort (M_cd v))), ((q 5), aI K 80 (M_codeA (M_cd v))), ((q 6), aI K 80 (M_codeB (M_cd v))), ((q 7), aI K 80 (M_codeC (M_cd v))), ((q 8), aI K 80 (M_codeName (M_cd v))), ((q 9), aI K 80 (M_codePlace (M_cd v))), ((q 10), aI K 80 (M_codeTo (M_cd v))), ((q 11), aI K 280 (M_labelName (M_cd v))), ((q 12), aI K 280 (M_labelAt (M_cd v))), ((q 13), aI K 64 (M_data (M_cd v))), ((q 14), aZ K 32 (M_hasData (M_rd v))), ((q 15), aI K 314 (M_s (M_rn v))), ((q 16), aI K 314 (M_aside (M_ex v))), ((q 17), aI K 314 (M_further (M_ex v))), ((q 18), aI K 314 (M_image (M_im v))), ((q 19), aI K 3 (M_sizeNow (M_rn v))), ((q 20), aI K 8 (M_aloneRegister (M_al v))), ((q 21), aI K 4 (M_aloneReal (M_al v))), ((q 22), aI K 32 (M_aloneMemory (M_al v))), ((q 23), aI K 999 (M_aloneOutput (M_al v)))]) cx cf_X10 0 31 rfl (by decide) (Nat.le_of_ble_eq_true rfl) rfl pfd_I wd_1347 dX10_asTold_7 rfl ?_
  refine r_iconst (pc := 10) cx dX10_asTold_10 ic_0 ?_
  refine r_istore_n (pc := 11) (loc' := [(1, .int (0 : Int32)), (0, .ref (q 0))]) cx dX10_asTold_11 rfl (by decide) rfl ?_
  have hL12 : ∀ (k12_37 : (Nat → Int32) → Option (T_M)), (∀ (f4 : (Nat → Int32)), k12_37 f4 = some o_v → WW p l e rm_M_asTold s m args below meth c D A 2 0 0 (MQ below (QV D K A (cl_M K q o_v)) args s 0 0 A) ([((q 0), ob 9 [.int (M_thrown v), .ref (q 1), .int (M_taped (M_tp v)), .ref (q 2), .ref (q 3), .ref (q 4), .ref (q 5), .ref (q 6), .ref (q 7), .ref (q 8), .ref (q 9), .ref (q 10), .ref (q 11), .ref (q 12), .ref (q 13), .ref (q 14), .int (M_lines (M_rd v)), .int (M_size (M_rd v)), .int (M_at (M_rd v)), .int (M_place (M_rd v)), .int (M_sort (M_rd v)), .int (M_value (M_rd v)), .int (M_fault (M_rd v)), .int (M_faultPlace (M_rd v)), .int (M_lastFault (M_lf v)), .int (M_lastPlace (M_lf v)), .ref (q 15), .ref (q 16), .ref (q 17), .ref (q 18), .int (M_hasImage (M_im v)), .int x1, .ref (q 19), .int (M_placeThen (M_rn v)), .int (M_alonePlace (M_al v)), .int (M_aloneSteps (M_al v)), .int (M_aloneOut (M_al v)), .ref (q 20), .ref (q 21), .ref (q 22), .ref (q 23), .int (M_shotAlarm (M_ex v)), .int (M_drawn (M_ex v))]), ((q 1), aI K 700 (M_tape (M_tp v))), ((q 2), aI K 20 (M_number (M_cd v))), ((q 3), aZ K 5 (M_isTold (M_rd v))), ((q 4), aI K 80 (M_codeSort (M_cd v))), ((q 5), aI K 80 (M_codeA (M_cd v))), ((q 6), aI K 80 (M_codeB (M_cd v))), ((q 7), aI K 80 (M_codeC (M_cd v))), ((q 8), aI K 80 (M_codeName (M_cd v))), ((q 9), aI K 80 (M_codePlace (M_cd v))), ((q 10), aI K 80 (M_codeTo (M_cd v))), ((q 11), aI K 280 (M_labelName (M_cd v))), ((q 12), aI K 280 (M_labelAt (M_cd v))), ((q 13), aI K 64 (M_data (M_cd v))), ((q 14), aZ K 32 (M_hasData (M_rd v))), ((q 15), aI K 314 (M_s (M_rn v))), ((q 16), aI K 314 (M_aside (M_ex v))), ((q 17), aI K 314 (M_further (M_ex v))), ((q 18), aI K 314 (M_image (M_im v))), ((q 19), aI K 3 f4), ((q 20), aI K 8 (M_aloneRegister (M_al v))), ((q 21), aI K 4 (M_aloneReal (M_al v))), ((q 22), aI K 32 (M_aloneMemory (M_al v))), ((q 23), aI K 999 (M_aloneOutput (M_al v)))]) ([]) ([]) 37) → ∀ (n12 : Nat) (x2 : Int32) (f3 : (Nat → Int32)), f_M_asTold_L12 v k12_37 n12 x2 f3 = some o_v → WW p l e rm_M_asTold s m args below meth c D A 2 0 0 (MQ below (QV D K A (cl_M K q o_v)) args s 0 0 A) ([((q 0), ob 9 [.int (M_thrown v), .ref (q 1), .int (M_taped (M_tp v)), .ref (q 2), .ref (q 3), .ref (q 4), .ref (q 5), .ref (q 6), .ref (q 7), .ref (q 8), .ref (q 9), .ref (q 10), .ref (q 11), .ref (q 12), .ref (q 13), .ref (q 14), .int (M_lines (M_rd v)), .int (M_size (M_rd v)), .int (M_at (M_rd v)), .int (M_place (M_rd v)), .int (M_sort (M_rd v)), .int (M_value (M_rd v)), .int (M_fault (M_rd v)), .int (M_faultPlace (M_rd v)), .int (M_lastFault (M_lf v)), .int (M_lastPlace (M_lf v)), .ref (q 15), .ref (q 16), .ref (q 17), .ref (q 18), .int (M_hasImage (M_im v)), .int x1, .ref (q 19), .int (M_placeThen (M_rn v)), .int (M_alonePlace (M_al v)), .int (M_aloneSteps (M_al v)), .int (M_aloneOut (M_al v)), .ref (q 20), .ref (q 21), .ref (q 22), .ref (q 23), .int (M_shotAlarm (M_ex v)), .int (M_drawn (M_ex v))]), ((q 1), aI K 700 (M_tape (M_tp v))), ((q 2), aI K 20 (M_number (M_cd v))), ((q 3), aZ K 5 (M_isTold (M_rd v))), ((q 4), aI K 80 (M_codeSort (M_cd v))), ((q 5), aI K 80 (M_codeA (M_cd v))), ((q 6), aI K 80 (M_codeB (M_cd v))), ((q 7), aI K 80 (M_codeC (M_cd v))), ((q 8), aI K 80 (M_codeName (M_cd v))), ((q 9), aI K 80 (M_codePlace (M_cd v))), ((q 10), aI K 80 (M_codeTo (M_cd v))), ((q 11), aI K 280 (M_labelName (M_cd v))), ((q 12), aI K 280 (M_labelAt (M_cd v))), ((q 13), aI K 64 (M_data (M_cd v))), ((q 14), aZ K 32 (M_hasData (M_rd v))), ((q 15), aI K 314 (M_s (M_rn v))), ((q 16), aI K 314 (M_aside (M_ex v))), ((q 17), aI K 314 (M_further (M_ex v))), ((q 18), aI K 314 (M_image (M_im v))), ((q 19), aI K 3 f3), ((q 20), aI K 8 (M_aloneRegister (M_al v))), ((q 21), aI K 4 (M_aloneReal (M_al v))), ((q 22), aI K 32 (M_aloneMemory (M_al v))), ((q 23), aI K 999 (M_aloneOutput (M_al v)))]) ([(0, .ref (q 0)), (1, .int x2)]) ([]) 12 := by
    intro k12_37 hk12_37 n12
    induction n12 with
    | zero => intro x2 f3 hf; exact (nomatch (show (none : Option (T_M)) = some _ from hf))
    | succ n12 ih12 =>
      intro x2 f3 hf
      rw [f_M_asTold_L12] at hf
      refine r_iload_n (pc := 12) cx dX10_asTold_12 1 rfl ?_
      refine r_iconst (pc := 13) cx dX10_asTold_13 ic_3 ?_
      refine r_icmp_ge (pc := 14) (tgt := 37) cx dX10_asTold_14 (by decide) (fun h5 => ?_) (fun h5 => ?_)
      · have hf := ifp h5 hf
        refine r_loc (loc' := []) [] rfl ?_
        exact hk12_37 _ hf
      · have hf := ifn h5 hf
        refine r_aload_n (pc := 17) cx dX10_asTold_17 0 rfl ?_
        refine r_get (pc := 18) cx cf_X10 0 32 rfl (by decide) rfl wd_1348 dX10_asTold_18 ?_
        refine r_iload_n (pc := 21) cx dX10_asTold_21 1 rfl ?_
        refine r_aload_n (pc := 22) cx dX10_asTold_22 0 rfl ?_
        refine r_get (pc := 23) cx cf_X10 0 3 rfl (by decide) rfl wd_1319 dX10_asTold_23 ?_
        refine r_iconst (pc := 26) cx dX10_asTold_26 ic_3 ?_
        refine r_iload_n (pc := 27) cx dX10_asTold_27 1 rfl ?_
        refine r_iadd (pc := 28) cx dX10_asTold_28 ?_
        obtain ⟨h6, hf⟩ := chk_of hf
        refine r_iald (pc := 29) cx 2 rfl h6 dX10_asTold_29 ?_
        obtain ⟨x7, ex7, hf⟩ := nm_of hf
        refine r_nm ex7 ?_
        obtain ⟨h8, hf⟩ := chk_of hf
        obtain ⟨f9, ef9, hf⟩ := nm_of hf
        refine r_iast (pc := 30) (ws' := [((q 0), ob 9 [.int (M_thrown v), .ref (q 1), .int (M_taped (M_tp v)), .ref (q 2), .ref (q 3), .ref (q 4), .ref (q 5), .ref (q 6), .ref (q 7), .ref (q 8), .ref (q 9), .ref (q 10), .ref (q 11), .ref (q 12), .ref (q 13), .ref (q 14), .int (M_lines (M_rd v)), .int (M_size (M_rd v)), .int (M_at (M_rd v)), .int (M_place (M_rd v)), .int (M_sort (M_rd v)), .int (M_value (M_rd v)), .int (M_fault (M_rd v)), .int (M_faultPlace (M_rd v)), .int (M_lastFault (M_lf v)), .int (M_lastPlace (M_lf v)), .ref (q 15), .ref (q 16), .ref (q 17), .ref (q 18), .int (M_hasImage (M_im v)), .int x1, .ref (q 19), .int (M_placeThen (M_rn v)), .int (M_alonePlace (M_al v)), .int (M_aloneSteps (M_al v)), .int (M_aloneOut (M_al v)), .ref (q 20), .ref (q 21), .ref (q 22), .ref (q 23), .int (M_shotAlarm (M_ex v)), .int (M_drawn (M_ex v))]), ((q 1), aI K 700 (M_tape (M_tp v))), ((q 2), aI K 20 (M_number (M_cd v))), ((q 3), aZ K 5 (M_isTold (M_rd v))), ((q 4), aI K 80 (M_codeSort (M_cd v))), ((q 5), aI K 80 (M_codeA (M_cd v))), ((q 6), aI K 80 (M_codeB (M_cd v))), ((q 7), aI K 80 (M_codeC (M_cd v))), ((q 8), aI K 80 (M_codeName (M_cd v))), ((q 9), aI K 80 (M_codePlace (M_cd v))), ((q 10), aI K 80 (M_codeTo (M_cd v))), ((q 11), aI K 280 (M_labelName (M_cd v))), ((q 12), aI K 280 (M_labelAt (M_cd v))), ((q 13), aI K 64 (M_data (M_cd v))), ((q 14), aZ K 32 (M_hasData (M_rd v))), ((q 15), aI K 314 (M_s (M_rn v))), ((q 16), aI K 314 (M_aside (M_ex v))), ((q 17), aI K 314 (M_further (M_ex v))), ((q 18), aI K 314 (M_image (M_im v))), ((q 19), aI K 3 f9), ((q 20), aI K 8 (M_aloneRegister (M_al v))), ((q 21), aI K 4 (M_aloneReal (M_al v))), ((q 22), aI K 32 (M_aloneMemory (M_al v))), ((q 23), aI K 999 (M_aloneOutput (M_al v)))]) cx 19 rfl h8 dX10_asTold_30 ef9 rfl ?_
        obtain ⟨x10, ex10, hf⟩ := nm_of hf
        refine r_iinc (pc := 31) (loc' := [(1, .int x10), (0, .ref (q 0))]) (v := x10) cx dX10_asTold_31 1 rfl ((congrArg (fun z => x2 + z) ic_1).trans ex10.symm) (by decide) rfl ?_
        refine r_goto (pc := 34) (tgt := 12) cx dX10_asTold_34 (by decide) ?_
        refine r_loc (loc' := [(0, .ref (q 0)), (1, .int x10)]) [1, 0] rfl ?_
        exact ih12 _ _ hf
  refine r_loc (loc' := [(0, .ref (q 0)), (1, .int (0 : Int32))]) [1, 0] rfl ?_
  refine hL12 _ (fun f4 hf => ?_) _ _ _ hf
  cases hf
  exact r_vret (pc := 37) cx rfl dX10_asTold_37
theorem yv_X10_asTold : YV yX10_asTold cX10_asTold 2 (none) 0 := ⟨⟨by decide +kernel, by decide +kernel, by decide +kernel⟩, wd_1315, wd_102, wd_1314, wd_30⟩
def f_M_begins_L6  (k6_26 : (Nat → Int32) → Option (T_M)) : Nat → Int32 → (Nat → Int32) → Option (T_M)
  | 0, _, _ => none
  | n6 + 1, x3, f4 =>
    (if (314 : Int32) ≤ x3 then (k6_26 f4) else (if ix x3 314 then (nm (upd f4 x3.toNatClampNeg (0 : Int32)) fun (f8 : Nat → Int32) => (nm (x3 + (1 : Int32)) fun (x9 : Int32) => (f_M_begins_L6 k6_26 n6 x9 f8))) else none))
def f_M_begins_L28 (v1 : T_M) (k28_56 : (Nat → Int32) → Option (T_M)) : Nat → Int32 → (Nat → Int32) → Option (T_M)
  | 0, _, _ => none
  | n28 + 1, x10, f11 =>
    (if (32 : Int32) ≤ x10 then (k28_56 f11) else (if ix x10 64 then (nm ((M_data (M_cd v1)) x10.toNatClampNeg) fun (x15 : Int32) => (if ix ((146 : Int32) + x10) 314 then (nm (upd f11 (((146 : Int32) + x10)).toNatClampNeg x15) fun (f17 : Nat → Int32) => (nm (x10 + (1 : Int32)) fun (x18 : Int32) => (f_M_begins_L28 v1 k28_56 n28 x18 f17))) else none)) else none))
def f_M_begins (v : T_M) : Option (T_M) :=
  (bd (f_M_asTold v) fun (v1 : T_M) => (f_M_begins_L6 (fun (f5 : (Nat → Int32)) => (f_M_begins_L28 v1 (fun (f12 : (Nat → Int32)) => (some ((M_tp v1), (M_rd v1), (M_lf v1), (M_cd v1), (f12, (M_spanNow (M_rn v1)), (M_sizeNow (M_rn v1)), (M_placeThen (M_rn v1))), (M_ex v1), (M_im v1), (M_al v1), (M_thrown v1)))) LF (0 : Int32) f5)) LF (0 : Int32) (M_s (M_rn v1))))
abbrev rm_M_begins : Room := { frames := 1, cells := 0, slots := 0, locals := 21 }
set_option maxRecDepth 100000 in
set_option maxHeartbeats 4000000 in
theorem m_M_begins (l : Launch) (D : va_G) (K : Nat → ClassId) (q : Nat → Nat) (v : T_M) {o_v : T_M} (hf : f_M_begins v = some o_v) : MV l yX10_begins cX10_begins 2 (none) rm_M_begins D K [.ref (q 0)] (cl_M K q v) (cl_M K q o_v) := by
  refine MV_of (loc0 := [(0, .ref (q 0))]) (by decide +kernel) rfl (Nat.le_of_ble_eq_true rfl) ?_
  intro p e s m args below meth c A cx
  unfold f_M_begins at hf
  refine r_ws (ws' := [((q 0), ob 9 [.int (M_thrown v), .ref (q 1), .int (M_taped (M_tp v)), .ref (q 2), .ref (q 3), .ref (q 4), .ref (q 5), .ref (q 6), .ref (q 7), .ref (q 8), .ref (q 9), .ref (q 10), .ref (q 11), .ref (q 12), .ref (q 13), .ref (q 14), .int (M_lines (M_rd v)), .int (M_size (M_rd v)), .int (M_at (M_rd v)), .int (M_place (M_rd v)), .int (M_sort (M_rd v)), .int (M_value (M_rd v)), .int (M_fault (M_rd v)), .int (M_faultPlace (M_rd v)), .int (M_lastFault (M_lf v)), .int (M_lastPlace (M_lf v)), .ref (q 15), .ref (q 16), .ref (q 17), .ref (q 18), .int (M_hasImage (M_im v)), .int (M_spanNow (M_rn v)), .ref (q 19), .int (M_placeThen (M_rn v)), .int (M_alonePlace (M_al v)), .int (M_aloneSteps (M_al v)), .int (M_aloneOut (M_al v)), .ref (q 20), .ref (q 21), .ref (q 22), .ref (q 23), .int (M_shotAlarm (M_ex v)), .int (M_drawn (M_ex v))]), ((q 1), aI K 700 (M_tape (M_tp v))), ((q 2), aI K 20 (M_number (M_cd v))), ((q 3), aZ K 5 (M_isTold (M_rd v))), ((q 4), aI K 80 (M_codeSort (M_cd v))), ((q 5), aI K 80 (M_codeA (M_cd v))), ((q 6), aI K 80 (M_codeB (M_cd v))), ((q 7), aI K 80 (M_codeC (M_cd v))), ((q 8), aI K 80 (M_codeName (M_cd v))), ((q 9), aI K 80 (M_codePlace (M_cd v))), ((q 10), aI K 80 (M_codeTo (M_cd v))), ((q 11), aI K 280 (M_labelName (M_cd v))), ((q 12), aI K 280 (M_labelAt (M_cd v))), ((q 13), aI K 64 (M_data (M_cd v))), ((q 14), aZ K 32 (M_hasData (M_rd v))), ((q 15), aI K 314 (M_s (M_rn v))), ((q 16), aI K 314 (M_aside (M_ex v))), ((q 17), aI K 314 (M_further (M_ex v))), ((q 18), aI K 314 (M_image (M_im v))), ((q 19), aI K 3 (M_sizeNow (M_rn v))), ((q 20), aI K 8 (M_aloneRegister (M_al v))), ((q 21), aI K 4 (M_aloneReal (M_al v))), ((q 22), aI K 32 (M_aloneMemory (M_al v))), ((q 23), aI K 999 (M_aloneOutput (M_al v)))]) rfl ?_
  refine r_aload_n (pc := 0) cx dX10_begins_0 0 rfl ?_
  obtain ⟨v1, hc2, hf⟩ := bd_of hf
  refine r_Vv (pc := 1) (ws' := [((q 0), ob 9 [.int (M_thrown v1), .ref (q 1), .int (M_taped (M_tp v1)), .ref (q 2), .ref (q 3), .ref (q 4), .ref (q 5), .ref (q 6), .ref (q 7), .ref (q 8), .ref (q 9), .ref (q 10), .ref (q 11), .ref (q 12), .ref (q 13), .ref (q 14), .int (M_lines (M_rd v1)), .int (M_size (M_rd v1)), .int (M_at (M_rd v1)), .int (M_place (M_rd v1)), .int (M_sort (M_rd v1)), .int (M_value (M_rd v1)), .int (M_fault (M_rd v1)), .int (M_faultPlace (M_rd v1)), .int (M_lastFault (M_lf v1)), .int (M_lastPlace (M_lf v1)), .ref (q 15), .ref (q 16), .ref (q 17), .ref (q 18), .int (M_hasImage (M_im v1)), .int (M_spanNow (M_rn v1)), .ref (q 19), .int (M_placeThen (M_rn v1)), .int (M_alonePlace (M_al v1)), .int (M_aloneSteps (M_al v1)), .int (M_aloneOut (M_al v1)), .ref (q 20), .ref (q 21), .ref (q 22), .ref (q 23), .int (M_shotAlarm (M_ex v1)), .int (M_drawn (M_ex v1))]), ((q 1), aI K 700 (M_tape (M_tp v1))), ((q 2), aI K 20 (M_number (M_cd v1))), ((q 3), aZ K 5 (M_isTold (M_rd v1))), ((q 4), aI K 80 (M_codeSort (M_cd v1))), ((q 5), aI K 80 (M_codeA (M_cd v1))), ((q 6), aI K 80 (M_codeB (M_cd v1))), ((q 7), aI K 80 (M_codeC (M_cd v1))), ((q 8), aI K 80 (M_codeName (M_cd v1))), ((q 9), aI K 80 (M_codePlace (M_cd v1))), ((q 10), aI K 80 (M_codeTo (M_cd v1))), ((q 11), aI K 280 (M_labelName (M_cd v1))), ((q 12), aI K 280 (M_labelAt (M_cd v1))), ((q 13), aI K 64 (M_data (M_cd v1))), ((q 14), aZ K 32 (M_hasData (M_rd v1))), ((q 15), aI K 314 (M_s (M_rn v1))), ((q 16), aI K 314 (M_aside (M_ex v1))), ((q 17), aI K 314 (M_further (M_ex v1))), ((q 18), aI K 314 (M_image (M_im v1))), ((q 19), aI K 3 (M_sizeNow (M_rn v1))), ((q 20), aI K 8 (M_aloneRegister (M_al v1))), ((q 21), aI K 4 (M_aloneReal (M_al v1))), ((q 22), aI K 32 (M_aloneMemory (M_al v1))), ((q 23), aI K 999 (M_aloneOutput (M_al v1)))]) cx [] [] [0, 1, 2, 3, 4, 5, 6, 7, 8, 9, 10, 11, 12, 13, 14, 15, 16, 17, 18, 19, 20, 21, 22, 23] (m_M_asTold l D K q v hc2) yv_X10_asTold wd_1312 ⟨rfl, rfl⟩ (by decide) rfl rfl rfl (by decide) 0 rfl rfl rfl (Nat.le_of_ble_eq_true rfl) dX10_begins_1 ?_
  refine r_iconst (pc := 4) cx dX10_begins_4 ic_0 ?_
  refine r_istore_n (pc := 5) (loc' := [(1, .int (0 : Int32)), (0, .ref (q 0))]) cx dX10_begins_5 rfl (by decide) rfl ?_
  have hL6 : ∀ (k6_26 : (Nat → Int32) → Option (T_M)), (∀ (f5 : (Nat → Int32)), k6_26 f5 = some o_v → WW p l e rm_M_begins s m args below meth c D A 2 0 0 (MQ below (QV D K A (cl_M K q o_v)) args s 0 0 A) ([((q 0), ob 9 [.int (M_thrown v1), .ref (q 1), .int (M_taped (M_tp v1)), .ref (q 2), .ref (q 3), .ref (q 4), .ref (q 5), .ref (q 6), .ref (q 7), .ref (q 8), .ref (q 9), .ref (q 10), .ref (q 11), .ref (q 12), .ref (q 13), .ref (q 14), .int (M_lines (M_rd v1)), .int (M_size (M_rd v1)), .int (M_at (M_rd v1)), .int (M_place (M_rd v1)), .int (M_sort (M_rd v1)), .int (M_value (M_rd v1)), .int (M_fault (M_rd v1)), .int (M_faultPlace (M_rd v1)), .int (M_lastFault (M_lf v1)), .int (M_lastPlace (M_lf v1)), .ref (q 15), .ref (q 16), .ref (q 17), .ref (q 18), .int (M_hasImage (M_im v1)), .int (M_spanNow (M_rn v1)), .ref (q 19), .int (M_placeThen (M_rn v1)), .int (M_alonePlace (M_al v1)), .int (M_aloneSteps (M_al v1)), .int (M_aloneOut (M_al v1)), .ref (q 20), .ref (q 21), .ref (q 22), .ref (q 23), .int (M_shotAlarm (M_ex v1)), .int (M_drawn (M_ex v1))]), ((q 1), aI K 700 (M_tape (M_tp v1))), ((q 2), aI K 20 (M_number (M_cd v1))), ((q 3), aZ K 5 (M_isTold (M_rd v1))), ((q 4), aI K 80 (M_codeSort (M_cd v1))), ((q 5), aI K 80 (M_codeA (M_cd v1))), ((q 6), aI K 80 (M_codeB (M_cd v1))), ((q 7), aI K 80 (M_codeC (M_cd v1))), ((q 8), aI K 80 (M_codeName (M_cd v1))), ((q 9), aI K 80 (M_codePlace (M_cd v1))), ((q 10), aI K 80 (M_codeTo (M_cd v1))), ((q 11), aI K 280 (M_labelName (M_cd v1))), ((q 12), aI K 280 (M_labelAt (M_cd v1))), ((q 13), aI K 64 (M_data (M_cd v1))), ((q 14), aZ K 32 (M_hasData (M_rd v1))), ((q 15), aI K 314 f5), ((q 16), aI K 314 (M_aside (M_ex v1))), ((q 17), aI K 314 (M_further (M_ex v1))), ((q 18), aI K 314 (M_image (M_im v1))), ((q 19), aI K 3 (M_sizeNow (M_rn v1))), ((q 20), aI K 8 (M_aloneRegister (M_al v1))), ((q 21), aI K 4 (M_aloneReal (M_al v1))), ((q 22), aI K 32 (M_aloneMemory (M_al v1))), ((q 23), aI K 999 (M_aloneOutput (M_al v1)))]) ([(0, .ref (q 0))]) ([]) 26) → ∀ (n6 : Nat) (x3 : Int32) (f4 : (Nat → Int32)), f_M_begins_L6 k6_26 n6 x3 f4 = some o_v → WW p l e rm_M_begins s m args below meth c D A 2 0 0 (MQ below (QV D K A (cl_M K q o_v)) args s 0 0 A) ([((q 0), ob 9 [.int (M_thrown v1), .ref (q 1), .int (M_taped (M_tp v1)), .ref (q 2), .ref (q 3), .ref (q 4), .ref (q 5), .ref (q 6), .ref (q 7), .ref (q 8), .ref (q 9), .ref (q 10), .ref (q 11), .ref (q 12), .ref (q 13), .ref (q 14), .int (M_lines (M_rd v1)), .int (M_size (M_rd v1)), .int (M_at (M_rd v1)), .int (M_place (M_rd v1)), .int (M_sort (M_rd v1)), .int (M_value (M_rd v1)), .int (M_fault (M_rd v1)), .int (M_faultPlace (M_rd v1)), .int (M_lastFault (M_lf v1)), .int (M_lastPlace (M_lf v1)), .ref (q 15), .ref (q 16), .ref (q 17), .ref (q 18), .int (M_hasImage (M_im v1)), .int (M_spanNow (M_rn v1)), .ref (q 19), .int (M_placeThen (M_rn v1)), .int (M_alonePlace (M_al v1)), .int (M_aloneSteps (M_al v1)), .int (M_aloneOut (M_al v1)), .ref (q 20), .ref (q 21), .ref (q 22), .ref (q 23), .int (M_shotAlarm (M_ex v1)), .int (M_drawn (M_ex v1))]), ((q 1), aI K 700 (M_tape (M_tp v1))), ((q 2), aI K 20 (M_number (M_cd v1))), ((q 3), aZ K 5 (M_isTold (M_rd v1))), ((q 4), aI K 80 (M_codeSort (M_cd v1))), ((q 5), aI K 80 (M_codeA (M_cd v1))), ((q 6), aI K 80 (M_codeB (M_cd v1))), ((q 7), aI K 80 (M_codeC (M_cd v1))), ((q 8), aI K 80 (M_codeName (M_cd v1))), ((q 9), aI K 80 (M_codePlace (M_cd v1))), ((q 10), aI K 80 (M_codeTo (M_cd v1))), ((q 11), aI K 280 (M_labelName (M_cd v1))), ((q 12), aI K 280 (M_labelAt (M_cd v1))), ((q 13), aI K 64 (M_data (M_cd v1))), ((q 14), aZ K 32 (M_hasData (M_rd v1))), ((q 15), aI K 314 f4), ((q 16), aI K 314 (M_aside (M_ex v1))), ((q 17), aI K 314 (M_further (M_ex v1))), ((q 18), aI K 314 (M_image (M_im v1))), ((q 19), aI K 3 (M_sizeNow (M_rn v1))), ((q 20), aI K 8 (M_aloneRegister (M_al v1))), ((q 21), aI K 4 (M_aloneReal (M_al v1))), ((q 22), aI K 32 (M_aloneMemory (M_al v1))), ((q 23), aI K 999 (M_aloneOutput (M_al v1)))]) ([(0, .ref (q 0)), (1, .int x3)]) ([]) 6 := by
    intro k6_26 hk6_26 n6
    induction n6 with
    | zero => intro x3 f4 hf; exact (nomatch (show (none : Option (T_M)) = some _ from hf))
    | succ n6 ih6 =>
      intro x3 f4 hf
      rw [f_M_begins_L6] at hf
      refine r_iload_n (pc := 6) cx dX10_begins_6 1 rfl ?_
      refine r_sipush (pc := 7) cx dX10_begins_7 sp_314 ?_
      refine r_icmp_ge (pc := 10) (tgt := 26) cx dX10_begins_10 (by decide) (fun h6 => ?_) (fun h6 => ?_)
      · have hf := ifp h6 hf
        refine r_loc (loc' := [(0, .ref (q 0))]) [0] rfl ?_
        exact hk6_26 _ hf
      · have hf := ifn h6 hf
        refine r_aload_n (pc := 13) cx dX10_begins_13 0 rfl ?_
        refine r_get (pc := 14) cx cf_X10 0 26 rfl (by decide) rfl wd_1342 dX10_begins_14 ?_
        refine r_iload_n (pc := 17) cx dX10_begins_17 1 rfl ?_
        refine r_iconst (pc := 18) cx dX10_begins_18 ic_0 ?_
        obtain ⟨h7, hf⟩ := chk_of hf
        obtain ⟨f8, ef8, hf⟩ := nm_of hf
        refine r_iast (pc := 19) (ws' := [((q 0), ob 9 [.int (M_thrown v1), .ref (q 1), .int (M_taped (M_tp v1)), .ref (q 2), .ref (q 3), .ref (q 4), .ref (q 5), .ref (q 6), .ref (q 7), .ref (q 8), .ref (q 9), .ref (q 10), .ref (q 11), .ref (q 12), .ref (q 13), .ref (q 14), .int (M_lines (M_rd v1)), .int (M_size (M_rd v1)), .int (M_at (M_rd v1)), .int (M_place (M_rd v1)), .int (M_sort (M_rd v1)), .int (M_value (M_rd v1)), .int (M_fault (M_rd v1)), .int (M_faultPlace (M_rd v1)), .int (M_lastFault (M_lf v1)), .int (M_lastPlace (M_lf v1)), .ref (q 15), .ref (q 16), .ref (q 17), .ref (q 18), .int (M_hasImage (M_im v1)), .int (M_spanNow (M_rn v1)), .ref (q 19), .int (M_placeThen (M_rn v1)), .int (M_alonePlace (M_al v1)), .int (M_aloneSteps (M_al v1)), .int (M_aloneOut (M_al v1)), .ref (q 20), .ref (q 21), .ref (q 22), .ref (q 23), .int (M_shotAlarm (M_ex v1)), .int (M_drawn (M_ex v1))]), ((q 1), aI K 700 (M_tape (M_tp v1))), ((q 2), aI K 20 (M_number (M_cd v1))), ((q 3), aZ K 5 (M_isTold (M_rd v1))), ((q 4), aI K 80 (M_codeSort (M_cd v1))), ((q 5), aI K 80 (M_codeA (M_cd v1))), ((q 6), aI K 80 (M_codeB (M_cd v1))), ((q 7), aI K 80 (M_codeC (M_cd v1))), ((q 8), aI K 80 (M_codeName (M_cd v1))), ((q 9), aI K 80 (M_codePlace (M_cd v1))), ((q 10), aI K 80 (M_codeTo (M_cd v1))), ((q 11), aI K 280 (M_labelName (M_cd v1))), ((q 12), aI K 280 (M_labelAt (M_cd v1))), ((q 13), aI K 64 (M_data (M_cd v1))), ((q 14), aZ K 32 (M_hasData (M_rd v1))), ((q 15), aI K 314 f8), ((q 16), aI K 314 (M_aside (M_ex v1))), ((q 17), aI K 314 (M_further (M_ex v1))), ((q 18), aI K 314 (M_image (M_im v1))), ((q 19), aI K 3 (M_sizeNow (M_rn v1))), ((q 20), aI K 8 (M_aloneRegister (M_al v1))), ((q 21), aI K 4 (M_aloneReal (M_al v1))), ((q 22), aI K 32 (M_aloneMemory (M_al v1))), ((q 23), aI K 999 (M_aloneOutput (M_al v1)))]) cx 15 rfl h7 dX10_begins_19 ef8 rfl ?_
        obtain ⟨x9, ex9, hf⟩ := nm_of hf
        refine r_iinc (pc := 20) (loc' := [(1, .int x9), (0, .ref (q 0))]) (v := x9) cx dX10_begins_20 1 rfl ((congrArg (fun z => x3 + z) ic_1).trans ex9.symm) (by decide) rfl ?_
        refine r_goto (pc := 23) (tgt := 6) cx dX10_begins_23 (by decide) ?_
        refine r_loc (loc' := [(0, .ref (q 0)), (1, .int x9)]) [1, 0] rfl ?_
        exact ih6 _ _ hf
  refine r_loc (loc' := [(0, .ref (q 0)), (1, .int (0 : Int32))]) [1, 0] rfl ?_
  refine hL6 _ (fun f5 hf => ?_) _ _ _ hf
  refine r_iconst (pc := 26) cx dX10_begins_26 ic_0 ?_
  refine r_istore_n (pc := 27) (loc' := [(1, .int (0 : Int32)), (0, .ref (q 0))]) cx dX10_begins_27 rfl (by decide) rfl ?_
  have hL28 : ∀ (k28_56 : (Nat → Int32) → Option (T_M)), (∀ (f12 : (Nat → Int32)), k28_56 f12 = some o_v → WW p l e rm_M_begins s m args below meth c D A 2 0 0 (MQ below (QV D K A (cl_M K q o_v)) args s 0 0 A) ([((q 0), ob 9 [.int (M_thrown v1), .ref (q 1), .int (M_taped (M_tp v1)), .ref (q 2), .ref (q 3), .ref (q 4), .ref (q 5), .ref (q 6), .ref (q 7), .ref (q 8), .ref (q 9), .ref (q 10), .ref (q 11), .ref (q 12), .ref (q 13), .ref (q 14), .int (M_lines (M_rd v1)), .int (M_size (M_rd v1)), .int (M_at (M_rd v1)), .int (M_place (M_rd v1)), .int (M_sort (M_rd v1)), .int (M_value (M_rd v1)), .int (M_fault (M_rd v1)), .int (M_faultPlace (M_rd v1)), .int (M_lastFault (M_lf v1)), .int (M_lastPlace (M_lf v1)), .ref (q 15), .ref (q 16), .ref (q 17), .ref (q 18), .int (M_hasImage (M_im v1)), .int (M_spanNow (M_rn v1)), .ref (q 19), .int (M_placeThen (M_rn v1)), .int (M_alonePlace (M_al v1)), .int (M_aloneSteps (M_al v1)), .int (M_aloneOut (M_al v1)), .ref (q 20), .ref (q 21), .ref (q 22), .ref (q 23), .int (M_shotAlarm (M_ex v1)), .int (M_drawn (M_ex v1))]), ((q 1), aI K 700 (M_tape (M_tp v1))), ((q 2), aI K 20 (M_number (M_cd v1))), ((q 3), aZ K 5 (M_isTold (M_rd v1))), ((q 4), aI K 80 (M_codeSort (M_cd v1))), ((q 5), aI K 80 (M_codeA (M_cd v1))), ((q 6), aI K 80 (M_codeB (M_cd v1))), ((q 7), aI K 80 (M_codeC (M_cd v1))), ((q 8), aI K 80 (M_codeName (M_cd v1))), ((q 9), aI K 80 (M_codePlace (M_cd v1))), ((q 10), aI K 80 (M_codeTo (M_cd v1))), ((q 11), aI K 280 (M_labelName (M_cd v1))), ((q 12), aI K 280 (M_labelAt (M_cd v1))), ((q 13), aI K 64 (M_data (M_cd v1))), ((q 14), aZ K 32 (M_hasData (M_rd v1))), ((q 15), aI K 314 f12), ((q 16), aI K 314 (M_aside (M_ex v1))), ((q 17), aI K 314 (M_further (M_ex v1))), ((q 18), aI K 314 (M_image (M_im v1))), ((q 19), aI K 3 (M_sizeNow (M_rn v1))), ((q 20), aI K 8 (M_aloneRegister (M_al v1))), ((q 21), aI K 4 (M_aloneReal (M_al v1))), ((q 22), aI K 32 (M_aloneMemory (M_al v1))), ((q 23), aI K 999 (M_aloneOutput (M_al v1)))]) ([]) ([]) 56) → ∀ (n28 : Nat) (x10 : Int32) (f11 : (Nat → Int32)), f_M_begins_L28 v1 k28_56 n28 x10 f11 = some o_v → WW p l e rm_M_begins s m args below meth c D A 2 0 0 (MQ below (QV D K A (cl_M K q o_v)) args s 0 0 A) ([((q 0), ob 9 [.int (M_thrown v1), .ref (q 1), .int (M_taped (M_tp v1)), .ref (q 2), .ref (q 3), .ref (q 4), .ref (q 5), .ref (q 6), .ref (q 7), .ref (q 8), .ref (q 9), .ref (q 10), .ref (q 11), .ref (q 12), .ref (q 13), .ref (q 14), .int (M_lines (M_rd v1)), .int (M_size (M_rd v1)), .int (M_at (M_rd v1)), .int (M_place (M_rd v1)), .int (M_sort (M_rd v1)), .int (M_value (M_rd v1)), .int (M_fault (M_rd v1)), .int (M_faultPlace (M_rd v1)), .int (M_lastFault (M_lf v1)), .int (M_lastPlace (M_lf v1)), .ref (q 15), .ref (q 16), .ref (q 17), .ref (q 18), .int (M_hasImage (M_im v1)), .int (M_spanNow (M_rn v1)), .ref (q 19), .int (M_placeThen (M_rn v1)), .int (M_alonePlace (M_al v1)), .int (M_aloneSteps (M_al v1)), .int (M_aloneOut (M_al v1)), .ref (q 20), .ref (q 21), .ref (q 22), .ref (q 23), .int (M_shotAlarm (M_ex v1)), .int (M_drawn (M_ex v1))]), ((q 1), aI K 700 (M_tape (M_tp v1))), ((q 2), aI K 20 (M_number (M_cd v1))), ((q 3), aZ K 5 (M_isTold (M_rd v1))), ((q 4), aI K 80 (M_codeSort (M_cd v1))), ((q 5), aI K 80 (M_codeA (M_cd v1))), ((q 6), aI K 80 (M_codeB (M_cd v1))), ((q 7), aI K 80 (M_codeC (M_cd v1))), ((q 8), aI K 80 (M_codeName (M_cd v1))), ((q 9), aI K 80 (M_codePlace (M_cd v1))), ((q 10), aI K 80 (M_codeTo (M_cd v1))), ((q 11), aI K 280 (M_labelName (M_cd v1))), ((q 12), aI K 280 (M_labelAt (M_cd v1))), ((q 13), aI K 64 (M_data (M_cd v1))), ((q 14), aZ K 32 (M_hasData (M_rd v1))), ((q 15), aI K 314 f11), ((q 16), aI K 314 (M_aside (M_ex v1))), ((q 17), aI K 314 (M_further (M_ex v1))), ((q 18), aI K 314 (M_image (M_im v1))), ((q 19), aI K 3 (M_sizeNow (M_rn v1))), ((q 20), aI K 8 (M_aloneRegister (M_al v1))), ((q 21), aI K 4 (M_aloneReal (M_al v1))), ((q 22), aI K 32 (M_aloneMemory (M_al v1))), ((q 23), aI K 999 (M_aloneOutput (M_al v1)))]) ([(0, .ref (q 0)), (1, .int x10)]) ([]) 28 := by
    intro k28_56 hk28_56 n28
    induction n28 with
    | zero => intro x10 f11 hf; exact (nomatch (show (none : Option (T_M)) = some _ from hf))
    | succ n28 ih28 =>
      intro x10 f11 hf
      rw [f_M_begins_L28] at hf
      refine r_iload_n (pc := 28) cx dX10_begins_28 1 rfl ?_
      refine r_bipush (pc := 29) cx dX10_begins_29 bp_32 ?_
      refine r_icmp_ge (pc := 31) (tgt := 56) cx dX10_begins_31 (by decide) (fun h13 => ?_) (fun h13 => ?_)
      · have hf := ifp h13 hf
        refine r_loc (loc' := []) [] rfl ?_
        exact hk28_56 _ hf
      · have hf := ifn h13 hf
        refine r_aload_n (pc := 34) cx dX10_begins_34 0 rfl ?_
        refine r_get (pc := 35) cx cf_X10 0 26 rfl (by decide) rfl wd_1342 dX10_begins_35 ?_
        refine r_sipush (pc := 38) cx dX10_begins_38 sp_146 ?_
        refine r_iload_n (pc := 41) cx dX10_begins_41 1 rfl ?_
        refine r_iadd (pc := 42) cx dX10_begins_42 ?_
        refine r_aload_n (pc := 43) cx dX10_begins_43 0 rfl ?_
        refine r_get (pc := 44) cx cf_X10 0 14 rfl (by decide) rfl wd_1330 dX10_begins_44 ?_
        refine r_iload_n (pc := 47) cx dX10_begins_47 1 rfl ?_
        obtain ⟨h14, hf⟩ := chk_of hf
        refine r_iald (pc := 48) cx 13 rfl h14 dX10_begins_48 ?_
        obtain ⟨x15, ex15, hf⟩ := nm_of hf
        refine r_nm ex15 ?_
        obtain ⟨h16, hf⟩ := chk_of hf
        obtain ⟨f17, ef17, hf⟩ := nm_of hf
        refine r_iast (pc := 49) (ws' := [((q 0), ob 9 [.int (M_thrown v1), .ref (q 1), .int (M_taped (M_tp v1)), .ref (q 2), .ref (q 3), .ref (q 4), .ref (q 5), .ref (q 6), .ref (q 7), .ref (q 8), .ref (q 9), .ref (q 10), .ref (q 11), .ref (q 12), .ref (q 13), .ref (q 14), .int (M_lines (M_rd v1)), .int (M_size (M_rd v1)), .int (M_at (M_rd v1)), .int (M_place (M_rd v1)), .int (M_sort (M_rd v1)), .int (M_value (M_rd v1)), .int (M_fault (M_rd v1)), .int (M_faultPlace (M_rd v1)), .int (M_lastFault (M_lf v1)), .int (M_lastPlace (M_lf v1)), .ref (q 15), .ref (q 16), .ref (q 17), .ref (q 18), .int (M_hasImage (M_im v1)), .int (M_spanNow (M_rn v1)), .ref (q 19), .int (M_placeThen (M_rn v1)), .int (M_alonePlace (M_al v1)), .int (M_aloneSteps (M_al v1)), .int (M_aloneOut (M_al v1)), .ref (q 20), .ref (q 21), .ref (q 22), .ref (q 23), .int (M_shotAlarm (M_ex v1)), .int (M_drawn (M_ex v1))]), ((q 1), aI K 700 (M_tape (M_tp v1))), ((q 2), aI K 20 (M_number (M_cd v1))), ((q 3), aZ K 5 (M_isTold (M_rd v1))), ((q 4), aI K 80 (M_codeSort (M_cd v1))), ((q 5), aI K 80 (M_codeA (M_cd v1))), ((q 6), aI K 80 (M_codeB (M_cd v1))), ((q 7), aI K 80 (M_codeC (M_cd v1))), ((q 8), aI K 80 (M_codeName (M_cd v1))), ((q 9), aI K 80 (M_codePlace (M_cd v1))), ((q 10), aI K 80 (M_codeTo (M_cd v1))), ((q 11), aI K 280 (M_labelName (M_cd v1))), ((q 12), aI K 280 (M_labelAt (M_cd v1))), ((q 13), aI K 64 (M_data (M_cd v1))), ((q 14), aZ K 32 (M_hasData (M_rd v1))), ((q 15), aI K 314 f17), ((q 16), aI K 314 (M_aside (M_ex v1))), ((q 17), aI K 314 (M_further (M_ex v1))), ((q 18), aI K 314 (M_image (M_im v1))), ((q 19), aI K 3 (M_sizeNow (M_rn v1))), ((q 20), aI K 8 (M_aloneRegister (M_al v1))), ((q 21), aI K 4 (M_aloneReal (M_al v1))), ((q 22), aI K 32 (M_aloneMemory (M_al v1))), ((q 23), aI K 999 (M_aloneOutput (M_al v1)))]) cx 15 rfl h16 dX10_begins_49 ef17 rfl ?_
        obtain ⟨x18, ex18, hf⟩ := nm_of hf
        refine r_iinc (pc := 50) (loc' := [(1, .int x18), (0, .ref (q 0))]) (v := x18) cx dX10_begins_50 1 rfl ((congrArg (fun z => x10 + z) ic_1).trans ex18.symm) (by decide) rfl ?_
        refine r_goto (pc := 53) (tgt := 28) cx dX10_begins_53 (by decide) ?_
        refine r_loc (loc' := [(0, .ref (q 0)), (1, .int x18)]) [1, 0] rfl ?_
        exact ih28 _ _ hf
  refine r_loc (loc' := [(0, .ref (q 0)), (1, .int (0 : Int32))]) [1, 0] rfl ?_
  refine hL28 _ (fun f12 hf => ?_) _ _ _ hf
  cases hf
  exact r_vret (pc := 56) cx rfl dX10_begins_56
theorem yv_X10_begins : YV yX10_begins cX10_begins 2 (none) 0 := ⟨⟨by decide +kernel, by decide +kernel, by decide +kernel⟩, wd_1311, wd_102, wd_1310, wd_29⟩
def f_M_ahead (v : T_M) : Option (Int32) :=
  (some (((M_s (M_rn v)) (2 : Int32).toNatClampNeg) - ((M_s (M_rn v)) (3 : Int32).toNatClampNeg)))
abbrev rm_M_ahead : Room := { frames := 0, cells := 0, slots := 0, locals := 0 }
set_option maxRecDepth 100000 in
set_option maxHeartbeats 4000000 in
theorem m_M_ahead (l : Launch) (D : va_G) (K : Nat → ClassId) (q : Nat → Nat) (v : T_M) {r_ : Int32} (hf : f_M_ahead v = some r_) : MI l yX10_ahead cX10_ahead 1 (some .int) rm_M_ahead D K [.ref (q 0)] (cl_M K q v) r_ (cl_M K q v) := by
  refine MI_of (loc0 := [(0, .ref (q 0))]) (by decide +kernel) rfl (Nat.le_of_ble_eq_true rfl) ?_
  intro p e s m args below meth c A cx
  unfold f_M_ahead at hf
  refine r_ws (ws' := [((q 0), ob 9 [.int (M_thrown v), .ref (q 1), .int (M_taped (M_tp v)), .ref (q 2), .ref (q 3), .ref (q 4), .ref (q 5), .ref (q 6), .ref (q 7), .ref (q 8), .ref (q 9), .ref (q 10), .ref (q 11), .ref (q 12), .ref (q 13), .ref (q 14), .int (M_lines (M_rd v)), .int (M_size (M_rd v)), .int (M_at (M_rd v)), .int (M_place (M_rd v)), .int (M_sort (M_rd v)), .int (M_value (M_rd v)), .int (M_fault (M_rd v)), .int (M_faultPlace (M_rd v)), .int (M_lastFault (M_lf v)), .int (M_lastPlace (M_lf v)), .ref (q 15), .ref (q 16), .ref (q 17), .ref (q 18), .int (M_hasImage (M_im v)), .int (M_spanNow (M_rn v)), .ref (q 19), .int (M_placeThen (M_rn v)), .int (M_alonePlace (M_al v)), .int (M_aloneSteps (M_al v)), .int (M_aloneOut (M_al v)), .ref (q 20), .ref (q 21), .ref (q 22), .ref (q 23), .int (M_shotAlarm (M_ex v)), .int (M_drawn (M_ex v))]), ((q 1), aI K 700 (M_tape (M_tp v))), ((q 2), aI K 20 (M_number (M_cd v))), ((q 3), aZ K 5 (M_isTold (M_rd v))), ((q 4), aI K 80 (M_codeSort (M_cd v))), ((q 5), aI K 80 (M_codeA (M_cd v))), ((q 6), aI K 80 (M_codeB (M_cd v))), ((q 7), aI K 80 (M_codeC (M_cd v))), ((q 8), aI K 80 (M_codeName (M_cd v))), ((q 9), aI K 80 (M_codePlace (M_cd v))), ((q 10), aI K 80 (M_codeTo (M_cd v))), ((q 11), aI K 280 (M_labelName (M_cd v))), ((q 12), aI K 280 (M_labelAt (M_cd v))), ((q 13), aI K 64 (M_data (M_cd v))), ((q 14), aZ K 32 (M_hasData (M_rd v))), ((q 15), aI K 314 (M_s (M_rn v))), ((q 16), aI K 314 (M_aside (M_ex v))), ((q 17), aI K 314 (M_further (M_ex v))), ((q 18), aI K 314 (M_image (M_im v))), ((q 19), aI K 3 (M_sizeNow (M_rn v))), ((q 20), aI K 8 (M_aloneRegister (M_al v))), ((q 21), aI K 4 (M_aloneReal (M_al v))), ((q 22), aI K 32 (M_aloneMemory (M_al v))), ((q 23), aI K 999 (M_aloneOutput (M_al v)))]) rfl ?_
  refine r_aload_n (pc := 0) cx dX10_ahead_0 0 rfl ?_
  refine r_get (pc := 1) cx cf_X10 0 26 rfl (by decide) rfl wd_1342 dX10_ahead_1 ?_
  refine r_iconst (pc := 4) cx dX10_ahead_4 ic_2 ?_
  refine r_iald (pc := 5) cx 15 rfl (by decide) dX10_ahead_5 ?_
  refine r_aload_n (pc := 6) cx dX10_ahead_6 0 rfl ?_
  refine r_get (pc := 7) cx cf_X10 0 26 rfl (by decide) rfl wd_1342 dX10_ahead_7 ?_
  refine r_iconst (pc := 10) cx dX10_ahead_10 ic_3 ?_
  refine r_iald (pc := 11) cx 15 rfl (by decide) dX10_ahead_11 ?_
  refine r_isub (pc := 12) cx dX10_ahead_12 ?_
  cases hf
  exact r_iret (pc := 13) cx rfl rfl dX10_ahead_13
theorem yv_X10_ahead : YV yX10_ahead cX10_ahead 1 (some .int) 0 := ⟨⟨by decide +kernel, by decide +kernel, by decide +kernel⟩, wd_1591, wd_102, wd_1590, wd_57⟩
def f_M_isHaltedAt (v : T_M) (a1 : Int32) : Option (Int32) :=
  (if ((M_number (M_cd v)) (8 : Int32).toNatClampNeg) ≤ a1 then (some (1 : Int32)) else (if ix a1 80 then (if ((M_codeSort (M_cd v)) a1.toNatClampNeg) = (24 : Int32) then (some (1 : Int32)) else (some (0 : Int32))) else none))
abbrev rm_M_isHaltedAt : Room := { frames := 0, cells := 0, slots := 0, locals := 0 }
set_option maxRecDepth 100000 in
set_option maxHeartbeats 4000000 in
theorem m_M_isHaltedAt (l : Launch) (D : va_G) (K : Nat → ClassId) (q : Nat → Nat) (v : T_M) (a1 : Int32) {r_ : Int32} (hf : f_M_isHaltedAt v a1 = some r_) : MI l yX10_isHaltedAt cX10_isHaltedAt 2 (some .boolean) rm_M_isHaltedAt D K [.ref (q 0), .int a1] (cl_M K q v) r_ (cl_M K q v) := by
  refine MI_of (loc0 := [(0, .ref (q 0)), (1, .int a1)]) (by decide +kernel) rfl (Nat.le_of_ble_eq_true rfl) ?_
  intro p e s m args below meth c A cx
  unfold f_M_isHaltedAt at hf
  refine r_ws (ws' := [((q 0), ob 9 [.int (M_thrown v), .ref (q 1), .int (M_taped (M_tp v)), .ref (q 2), .ref (q 3), .ref (q 4), .ref (q 5), .ref (q 6), .ref (q 7), .ref (q 8), .ref (q 9), .ref (q 10), .ref (q 11), .ref (q 12), .ref (q 13), .ref (q 14), .int (M_lines (M_rd v)), .int (M_size (M_rd v)), .int (M_at (M_rd v)), .int (M_place (M_rd v)), .int (M_sort (M_rd v)), .int (M_value (M_rd v)), .int (M_fault (M_rd v)), .int (M_faultPlace (M_rd v)), .int (M_lastFault (M_lf v)), .int (M_lastPlace (M_lf v)), .ref (q 15), .ref (q 16), .ref (q 17), .ref (q 18), .int (M_hasImage (M_im v)), .int (M_spanNow (M_rn v)), .ref (q 19), .int (M_placeThen (M_rn v)), .int (M_alonePlace (M_al v)), .int (M_aloneSteps (M_al v)), .int (M_aloneOut (M_al v)), .ref (q 20), .ref (q 21), .ref (q 22), .ref (q 23), .int (M_shotAlarm (M_ex v)), .int (M_drawn (M_ex v))]), ((q 1), aI K 700 (M_tape (M_tp v))), ((q 2), aI K 20 (M_number (M_cd v))), ((q 3), aZ K 5 (M_isTold (M_rd v))), ((q 4), aI K 80 (M_codeSort (M_cd v))), ((q 5), aI K 80 (M_codeA (M_cd v))), ((q 6), aI K 80 (M_codeB (M_cd v))), ((q 7), aI K 80 (M_codeC (M_cd v))), ((q 8), aI K 80 (M_codeName (M_cd v))), ((q 9), aI K 80 (M_codePlace (M_cd v))), ((q 10), aI K 80 (M_codeTo (M_cd v))), ((q 11), aI K 280 (M_labelName (M_cd v))), ((q 12), aI K 280 (M_labelAt (M_cd v))), ((q 13), aI K 64 (M_data (M_cd v))), ((q 14), aZ K 32 (M_hasData (M_rd v))), ((q 15), aI K 314 (M_s (M_rn v))), ((q 16), aI K 314 (M_aside (M_ex v))), ((q 17), aI K 314 (M_further (M_ex v))), ((q 18), aI K 314 (M_image (M_im v))), ((q 19), aI K 3 (M_sizeNow (M_rn v))), ((q 20), aI K 8 (M_aloneRegister (M_al v))), ((q 21), aI K 4 (M_aloneReal (M_al v))), ((q 22), aI K 32 (M_aloneMemory (M_al v))), ((q 23), aI K 999 (M_aloneOutput (M_al v)))]) rfl ?_
  refine r_iload_n (pc := 0) cx dX10_isHaltedAt_0 1 rfl ?_
  refine r_aload_n (pc := 1) cx dX10_isHaltedAt_1 0 rfl ?_
  refine r_get (pc := 2) cx cf_X10 0 3 rfl (by decide) rfl wd_1319 dX10_isHaltedAt_2 ?_
  refine r_bipush (pc := 5) cx dX10_isHaltedAt_5 bp_8 ?_
  refine r_iald (pc := 7) cx 2 rfl (by decide) dX10_isHaltedAt_7 ?_
  refine r_icmp_ge (pc := 8) (tgt := 22) cx dX10_isHaltedAt_8 (by decide) (fun h1 => ?_) (fun h1 => ?_)
  · have hf := ifp h1 hf
    refine r_iconst (pc := 22) cx dX10_isHaltedAt_22 ic_1 ?_
    refine r_goto (pc := 23) (tgt := 27) cx dX10_isHaltedAt_23 (by decide) ?_
    cases hf
    exact r_zret (pc := 27) cx (Or.inr rfl) rfl rfl dX10_isHaltedAt_27
  · have hf := ifn h1 hf
    refine r_aload_n (pc := 11) cx dX10_isHaltedAt_11 0 rfl ?_
    refine r_get (pc := 12) cx cf_X10 0 5 rfl (by decide) rfl wd_1321 dX10_isHaltedAt_12 ?_
    refine r_iload_n (pc := 15) cx dX10_isHaltedAt_15 1 rfl ?_
    obtain ⟨h2, hf⟩ := chk_of hf
    refine r_iald (pc := 16) cx 4 rfl h2 dX10_isHaltedAt_16 ?_
    refine r_bipush (pc := 17) cx dX10_isHaltedAt_17 bp_24 ?_
    refine r_icmp_ne (pc := 19) (tgt := 26) cx dX10_isHaltedAt_19 (by decide) (fun h3 => ?_) (fun h3 => ?_)
    · have hf := ifn h3 hf
      refine r_iconst (pc := 26) cx dX10_isHaltedAt_26 ic_0 ?_
      cases hf
      exact r_zret (pc := 27) cx (Or.inl rfl) rfl rfl dX10_isHaltedAt_27
    · have hf := ifp h3 hf
      refine r_iconst (pc := 22) cx dX10_isHaltedAt_22 ic_1 ?_
      refine r_goto (pc := 23) (tgt := 27) cx dX10_isHaltedAt_23 (by decide) ?_
      cases hf
      exact r_zret (pc := 27) cx (Or.inr rfl) rfl rfl dX10_isHaltedAt_27
theorem yv_X10_isHaltedAt : YV yX10_isHaltedAt cX10_isHaltedAt 2 (some .boolean) 1 := ⟨⟨by decide +kernel, by decide +kernel, by decide +kernel⟩, wd_1587, wd_102, wd_1586, wd_56⟩
def f_M_isHalted (v : T_M) (a1 : Int32) : Option (Int32) :=
  (if ix ((0 : Int32) + a1) 314 then (bd (f_M_isHaltedAt v ((M_s (M_rn v)) (((0 : Int32) + a1)).toNatClampNeg)) fun (r2 : Int32) => (if isB r2 then (some r2) else none)) else none)
abbrev rm_M_isHalted : Room := { frames := 1, cells := 0, slots := 0, locals := 21 }
set_option maxRecDepth 100000 in
set_option maxHeartbeats 4000000 in
theorem m_M_isHalted (l : Launch) (D : va_G) (K : Nat → ClassId) (q : Nat → Nat) (v : T_M) (a1 : Int32) {r_ : Int32} (hf : f_M_isHalted v a1 = some r_) : MI l yX10_isHalted cX10_isHalted 2 (some .boolean) rm_M_isHalted D K [.ref (q 0), .int a1] (cl_M K q v) r_ (cl_M K q v) := by
  refine MI_of (loc0 := [(0, .ref (q 0)), (1, .int a1)]) (by decide +kernel) rfl (Nat.le_of_ble_eq_true rfl) ?_
  intro p e s m args below meth c A cx
  unfold f_M_isHalted at hf
  refine r_ws (ws' := [((q 0), ob 9 [.int (M_thrown v), .ref (q 1), .int (M_taped (M_tp v)), .ref (q 2), .ref (q 3), .ref (q 4), .ref (q 5), .ref (q 6), .ref (q 7), .ref (q 8), .ref (q 9), .ref (q 10), .ref (q 11), .ref (q 12), .ref (q 13), .ref (q 14), .int (M_lines (M_rd v)), .int (M_size (M_rd v)), .int (M_at (M_rd v)), .int (M_place (M_rd v)), .int (M_sort (M_rd v)), .int (M_value (M_rd v)), .int (M_fault (M_rd v)), .int (M_faultPlace (M_rd v)), .int (M_lastFault (M_lf v)), .int (M_lastPlace (M_lf v)), .ref (q 15), .ref (q 16), .ref (q 17), .ref (q 18), .int (M_hasImage (M_im v)), .int (M_spanNow (M_rn v)), .ref (q 19), .int (M_placeThen (M_rn v)), .int (M_alonePlace (M_al v)), .int (M_aloneSteps (M_al v)), .int (M_aloneOut (M_al v)), .ref (q 20), .ref (q 21), .ref (q 22), .ref (q 23), .int (M_shotAlarm (M_ex v)), .int (M_drawn (M_ex v))]), ((q 1), aI K 700 (M_tape (M_tp v))), ((q 2), aI K 20 (M_number (M_cd v))), ((q 3), aZ K 5 (M_isTold (M_rd v))), ((q 4), aI K 80 (M_codeSort (M_cd v))), ((q 5), aI K 80 (M_codeA (M_cd v))), ((q 6), aI K 80 (M_codeB (M_cd v))), ((q 7), aI K 80 (M_codeC (M_cd v))), ((q 8), aI K 80 (M_codeName (M_cd v))), ((q 9), aI K 80 (M_codePlace (M_cd v))), ((q 10), aI K 80 (M_codeTo (M_cd v))), ((q 11), aI K 280 (M_labelName (M_cd v))), ((q 12), aI K 280 (M_labelAt (M_cd v))), ((q 13), aI K 64 (M_data (M_cd v))), ((q 14), aZ K 32 (M_hasData (M_rd v))), ((q 15), aI K 314 (M_s (M_rn v))), ((q 16), aI K 314 (M_aside (M_ex v))), ((q 17), aI K 314 (M_further (M_ex v))), ((q 18), aI K 314 (M_image (M_im v))), ((q 19), aI K 3 (M_sizeNow (M_rn v))), ((q 20), aI K 8 (M_aloneRegister (M_al v))), ((q 21), aI K 4 (M_aloneReal (M_al v))), ((q 22), aI K 32 (M_aloneMemory (M_al v))), ((q 23), aI K 999 (M_aloneOutput (M_al v)))]) rfl ?_
  refine r_aload_n (pc := 0) cx dX10_isHalted_0 0 rfl ?_
  refine r_aload_n (pc := 1) cx dX10_isHalted_1 0 rfl ?_
  refine r_get (pc := 2) cx cf_X10 0 26 rfl (by decide) rfl wd_1342 dX10_isHalted_2 ?_
  refine r_iconst (pc := 5) cx dX10_isHalted_5 ic_0 ?_
  refine r_iload_n (pc := 6) cx dX10_isHalted_6 1 rfl ?_
  refine r_iadd (pc := 7) cx dX10_isHalted_7 ?_
  obtain ⟨h1, hf⟩ := chk_of hf
  refine r_iald (pc := 8) cx 15 rfl h1 dX10_isHalted_8 ?_
  obtain ⟨r2, hc3, hf⟩ := bd_of hf
  refine r_Vi (pc := 9) (ws' := [((q 0), ob 9 [.int (M_thrown v), .ref (q 1), .int (M_taped (M_tp v)), .ref (q 2), .ref (q 3), .ref (q 4), .ref (q 5), .ref (q 6), .ref (q 7), .ref (q 8), .ref (q 9), .ref (q 10), .ref (q 11), .ref (q 12), .ref (q 13), .ref (q 14), .int (M_lines (M_rd v)), .int (M_size (M_rd v)), .int (M_at (M_rd v)), .int (M_place (M_rd v)), .int (M_sort (M_rd v)), .int (M_value (M_rd v)), .int (M_fault (M_rd v)), .int (M_faultPlace (M_rd v)), .int (M_lastFault (M_lf v)), .int (M_lastPlace (M_lf v)), .ref (q 15), .ref (q 16), .ref (q 17), .ref (q 18), .int (M_hasImage (M_im v)), .int (M_spanNow (M_rn v)), .ref (q 19), .int (M_placeThen (M_rn v)), .int (M_alonePlace (M_al v)), .int (M_aloneSteps (M_al v)), .int (M_aloneOut (M_al v)), .ref (q 20), .ref (q 21), .ref (q 22), .ref (q 23), .int (M_shotAlarm (M_ex v)), .int (M_drawn (M_ex v))]), ((q 1), aI K 700 (M_tape (M_tp v))), ((q 2), aI K 20 (M_number (M_cd v))), ((q 3), aZ K 5 (M_isTold (M_rd v))), ((q 4), aI K 80 (M_codeSort (M_cd v))), ((q 5), aI K 80 (M_codeA (M_cd v))), ((q 6), aI K 80 (M_codeB (M_cd v))), ((q 7), aI K 80 (M_codeC (M_cd v))), ((q 8), aI K 80 (M_codeName (M_cd v))), ((q 9), aI K 80 (M_codePlace (M_cd v))), ((q 10), aI K 80 (M_codeTo (M_cd v))), ((q 11), aI K 280 (M_labelName (M_cd v))), ((q 12), aI K 280 (M_labelAt (M_cd v))), ((q 13), aI K 64 (M_data (M_cd v))), ((q 14), aZ K 32 (M_hasData (M_rd v))), ((q 15), aI K 314 (M_s (M_rn v))), ((q 16), aI K 314 (M_aside (M_ex v))), ((q 17), aI K 314 (M_further (M_ex v))), ((q 18), aI K 314 (M_image (M_im v))), ((q 19), aI K 3 (M_sizeNow (M_rn v))), ((q 20), aI K 8 (M_aloneRegister (M_al v))), ((q 21), aI K 4 (M_aloneReal (M_al v))), ((q 22), aI K 32 (M_aloneMemory (M_al v))), ((q 23), aI K 999 (M_aloneOutput (M_al v)))]) cx [.int ((M_s (M_rn v)) (((0 : Int32) + a1)).toNatClampNeg)] [] [0, 1, 2, 3, 4, 5, 6, 7, 8, 9, 10, 11, 12, 13, 14, 15, 16, 17, 18, 19, 20, 21, 22, 23] (m_M_isHaltedAt l D K q v ((M_s (M_rn v)) (((0 : Int32) + a1)).toNatClampNeg) hc3) yv_X10_isHaltedAt wd_1584 ⟨rfl, rfl⟩ (by decide) rfl rfl rfl (by decide) 0 rfl rfl rfl (Nat.le_of_ble_eq_true rfl) dX10_isHalted_9 ?_
  obtain ⟨h4, hf⟩ := chk_of hf
  cases hf
  exact r_zret (pc := 12) cx h4 rfl rfl dX10_isHalted_12
theorem yv_X10_isHalted : YV yX10_isHalted cX10_isHalted 2 (some .boolean) 1 := ⟨⟨by decide +kernel, by decide +kernel, by decide +kernel⟩, wd_1583, wd_102, wd_1582, wd_55⟩
def f_M_isBranch (a0 : Int32) : Option (Int32) :=
  (if a0 = (21 : Int32) then (some (1 : Int32)) else (if a0 = (22 : Int32) then (some (1 : Int32)) else (if a0 = (23 : Int32) then (some (1 : Int32)) else (some (0 : Int32)))))
abbrev rm_M_isBranch : Room := { frames := 0, cells := 0, slots := 0, locals := 0 }
set_option maxRecDepth 100000 in
set_option maxHeartbeats 4000000 in
theorem m_M_isBranch (l : Launch) (D : va_G) (K : Nat → ClassId) (a0 : Int32) {r_ : Int32} (hf : f_M_isBranch a0 = some r_) : MI l yX10_isBranch cX10_isBranch 1 (some .boolean) rm_M_isBranch D K [.int a0] ([]) r_ ([]) := by
  refine MI_of (loc0 := [(0, .int a0)]) (by decide +kernel) rfl (Nat.le_of_ble_eq_true rfl) ?_
  intro p e s m args below meth c A cx
  unfold f_M_isBranch at hf
  refine r_ws (ws' := []) rfl ?_
  refine r_iload_n (pc := 0) cx dX10_isBranch_0 0 rfl ?_
  refine r_bipush (pc := 1) cx dX10_isBranch_1 bp_21 ?_
  refine r_icmp_eq (pc := 3) (tgt := 18) cx dX10_isBranch_3 (by decide) (fun h1 => ?_) (fun h1 => ?_)
  · have hf := ifp h1 hf
    refine r_iconst (pc := 18) cx dX10_isBranch_18 ic_1 ?_
    refine r_goto (pc := 19) (tgt := 23) cx dX10_isBranch_19 (by decide) ?_
    cases hf
    exact r_zret (pc := 23) cx (Or.inr rfl) rfl rfl dX10_isBranch_23
  · have hf := ifn h1 hf
    refine r_iload_n (pc := 6) cx dX10_isBranch_6 0 rfl ?_
    refine r_bipush (pc := 7) cx dX10_isBranch_7 bp_22 ?_
    refine r_icmp_eq (pc := 9) (tgt := 18) cx dX10_isBranch_9 (by decide) (fun h2 => ?_) (fun h2 => ?_)
    · have hf := ifp h2 hf
      refine r_iconst (pc := 18) cx dX10_isBranch_18 ic_1 ?_
      refine r_goto (pc := 19) (tgt := 23) cx dX10_isBranch_19 (by decide) ?_
      cases hf
      exact r_zret (pc := 23) cx (Or.inr rfl) rfl rfl dX10_isBranch_23
    · have hf := ifn h2 hf
      refine r_iload_n (pc := 12) cx dX10_isBranch_12 0 rfl ?_
      refine r_bipush (pc := 13) cx dX10_isBranch_13 bp_23 ?_
      refine r_icmp_ne (pc := 15) (tgt := 22) cx dX10_isBranch_15 (by decide) (fun h3 => ?_) (fun h3 => ?_)
      · have hf := ifn h3 hf
        refine r_iconst (pc := 22) cx dX10_isBranch_22 ic_0 ?_
        cases hf
        exact r_zret (pc := 23) cx (Or.inl rfl) rfl rfl dX10_isBranch_23
      · have hf := ifp h3 hf
        refine r_iconst (pc := 18) cx dX10_isBranch_18 ic_1 ?_
        refine r_goto (pc := 19) (tgt := 23) cx dX10_isBranch_19 (by decide) ?_
        cases hf
        exact r_zret (pc := 23) cx (Or.inr rfl) rfl rfl dX10_isBranch_23
theorem ys_X10_isBranch : YS yX10_isBranch cX10_isBranch 1 (some .boolean) 1 := ⟨⟨by decide +kernel, by decide +kernel, by decide +kernel⟩, wd_1602, wd_102, wd_1601⟩
def f_M_isBlocked (v : T_M) (a1 : Int32) : Option (Int32) :=
  (if ix ((0 : Int32) + a1) 314 then (if ix ((M_s (M_rn v)) (((0 : Int32) + a1)).toNatClampNeg) 80 then (nm ((M_codeSort (M_cd v)) (((M_s (M_rn v)) (((0 : Int32) + a1)).toNatClampNeg)).toNatClampNeg) fun (x3 : Int32) => (if x3 = (12 : Int32) then (if a1 = (0 : Int32) then (if ((M_s (M_rn v)) (86 : Int32).toNatClampNeg) < ((M_sizeNow (M_rn v)) (0 : Int32).toNatClampNeg) then (some (0 : Int32)) else (some (1 : Int32))) else (if ((M_s (M_rn v)) (86 : Int32).toNatClampNeg) = (0 : Int32) then (some (1 : Int32)) else (some (0 : Int32)))) else (bd (f_M_isBranch x3) fun (r5 : Int32) => (if r5 = (0 : Int32) then (if x3 = (13 : Int32) then (if a1 = (0 : Int32) then (if ((M_s (M_rn v)) (112 : Int32).toNatClampNeg) < ((M_sizeNow (M_rn v)) (2 : Int32).toNatClampNeg) then (some (0 : Int32)) else (some (1 : Int32))) else (if ((M_s (M_rn v)) (112 : Int32).toNatClampNeg) = ((M_s (M_rn v)) (113 : Int32).toNatClampNeg) then (some (1 : Int32)) else (some (0 : Int32)))) else (if x3 = (14 : Int32) then (if a1 = (0 : Int32) then (if ((M_s (M_rn v)) (112 : Int32).toNatClampNeg) < ((M_sizeNow (M_rn v)) (2 : Int32).toNatClampNeg) then (some (0 : Int32)) else (some (1 : Int32))) else (if ((M_s (M_rn v)) (112 : Int32).toNatClampNeg) = ((M_s (M_rn v)) (113 : Int32).toNatClampNeg) then (some (1 : Int32)) else (some (0 : Int32)))) else (some (0 : Int32)))) else (if a1 = (0 : Int32) then (if ((M_s (M_rn v)) (103 : Int32).toNatClampNeg) < ((M_sizeNow (M_rn v)) (1 : Int32).toNatClampNeg) then (some (0 : Int32)) else (some (1 : Int32))) else (if ((M_s (M_rn v)) (103 : Int32).toNatClampNeg) = (0 : Int32) then (some (1 : Int32)) else (some (0 : Int32)))))))) else none) else none)
abbrev rm_M_isBlocked : Room := { frames := 1, cells := 0, slots := 0, locals := 20 }
set_option maxRecDepth 100000 in
set_option maxHeartbeats 4000000 in
theorem m_M_isBlocked (l : Launch) (D : va_G) (K : Nat → ClassId) (q : Nat → Nat) (v : T_M) (a1 : Int32) {r_ : Int32} (hf : f_M_isBlocked v a1 = some r_) : MI l yX10_isBlocked cX10_isBlocked 3 (some .boolean) rm_M_isBlocked D K [.ref (q 0), .int a1] (cl_M K q v) r_ (cl_M K q v) := by
  refine MI_of (loc0 := [(0, .ref (q 0)), (1, .int a1)]) (by decide +kernel) rfl (Nat.le_of_ble_eq_true rfl) ?_
  intro p e s m args below meth c A cx
  unfold f_M_isBlocked at hf
  refine r_ws (ws' := [((q 0), ob 9 [.int (M_thrown v), .ref (q 1), .int (M_taped (M_tp v)), .ref (q 2), .ref (q 3), .ref (q 4), .ref (q 5), .ref (q 6), .ref (q 7), .ref (q 8), .ref (q 9), .ref (q 10), .ref (q 11), .ref (q 12), .ref (q 13), .ref (q 14), .int (M_lines (M_rd v)), .int (M_size (M_rd v)), .int (M_at (M_rd v)), .int (M_place (M_rd v)), .int (M_sort (M_rd v)), .int (M_value (M_rd v)), .int (M_fault (M_rd v)), .int (M_faultPlace (M_rd v)), .int (M_lastFault (M_lf v)), .int (M_lastPlace (M_lf v)), .ref (q 15), .ref (q 16), .ref (q 17), .ref (q 18), .int (M_hasImage (M_im v)), .int (M_spanNow (M_rn v)), .ref (q 19), .int (M_placeThen (M_rn v)), .int (M_alonePlace (M_al v)), .int (M_aloneSteps (M_al v)), .int (M_aloneOut (M_al v)), .ref (q 20), .ref (q 21), .ref (q 22), .ref (q 23), .int (M_shotAlarm (M_ex v)), .int (M_drawn (M_ex v))]), ((q 1), aI K 700 (M_tape (M_tp v))), ((q 2), aI K 20 (M_number (M_cd v))), ((q 3), aZ K 5 (M_isTold (M_rd v))), ((q 4), aI K 80 (M_codeSort (M_cd v))), ((q 5), aI K 80 (M_codeA (M_cd v))), ((q 6), aI K 80 (M_codeB (M_cd v))), ((q 7), aI K 80 (M_codeC (M_cd v))), ((q 8), aI K 80 (M_codeName (M_cd v))), ((q 9), aI K 80 (M_codePlace (M_cd v))), ((q 10), aI K 80 (M_codeTo (M_cd v))), ((q 11), aI K 280 (M_labelName (M_cd v))), ((q 12), aI K 280 (M_labelAt (M_cd v))), ((q 13), aI K 64 (M_data (M_cd v))), ((q 14), aZ K 32 (M_hasData (M_rd v))), ((q 15), aI K 314 (M_s (M_rn v))), ((q 16), aI K 314 (M_aside (M_ex v))), ((q 17), aI K 314 (M_further (M_ex v))), ((q 18), aI K 314 (M_image (M_im v))), ((q 19), aI K 3 (M_sizeNow (M_rn v))), ((q 20), aI K 8 (M_aloneRegister (M_al v))), ((q 21), aI K 4 (M_aloneReal (M_al v))), ((q 22), aI K 32 (M_aloneMemory (M_al v))), ((q 23), aI K 999 (M_aloneOutput (M_al v)))]) rfl ?_
  refine r_aload_n (pc := 0) cx dX10_isBlocked_0 0 rfl ?_
  refine r_get (pc := 1) cx cf_X10 0 5 rfl (by decide) rfl wd_1321 dX10_isBlocked_1 ?_
  refine r_aload_n (pc := 4) cx dX10_isBlocked_4 0 rfl ?_
  refine r_get (pc := 5) cx cf_X10 0 26 rfl (by decide) rfl wd_1342 dX10_isBlocked_5 ?_
  refine r_iconst (pc := 8) cx dX10_isBlocked_8 ic_0 ?_
  refine r_iload_n (pc := 9) cx dX10_isBlocked_9 1 rfl ?_
  refine r_iadd (pc := 10) cx dX10_isBlocked_10 ?_
  obtain ⟨h1, hf⟩ := chk_of hf
  refine r_iald (pc := 11) cx 15 rfl h1 dX10_isBlocked_11 ?_
  obtain ⟨h2, hf⟩ := chk_of hf
  refine r_iald (pc := 12) cx 4 rfl h2 dX10_isBlocked_12 ?_
  obtain ⟨x3, ex3, hf⟩ := nm_of hf
  refine r_nm ex3 ?_
  refine r_istore_n (pc := 13) (loc' := [(2, .int x3), (0, .ref (q 0)), (1, .int a1)]) cx dX10_isBlocked_13 rfl (by decide) rfl ?_
  refine r_iload_n (pc := 14) cx dX10_isBlocked_14 0 rfl ?_
  refine r_bipush (pc := 15) cx dX10_isBlocked_15 bp_12 ?_
  refine r_icmp_ne (pc := 17) (tgt := 64) cx dX10_isBlocked_17 (by decide) (fun h4 => ?_) (fun h4 => ?_)
  · have hf := ifn h4 hf
    refine r_iload_n (pc := 64) cx dX10_isBlocked_64 0 rfl ?_
    obtain ⟨r5, hc6, hf⟩ := bd_of hf
    refine r_Si (pc := 65) (ws' := [((q 0), ob 9 [.int (M_thrown v), .ref (q 1), .int (M_taped (M_tp v)), .ref (q 2), .ref (q 3), .ref (q 4), .ref (q 5), .ref (q 6), .ref (q 7), .ref (q 8), .ref (q 9), .ref (q 10), .ref (q 11), .ref (q 12), .ref (q 13), .ref (q 14), .int (M_lines (M_rd v)), .int (M_size (M_rd v)), .int (M_at (M_rd v)), .int (M_place (M_rd v)), .int (M_sort (M_rd v)), .int (M_value (M_rd v)), .int (M_fault (M_rd v)), .int (M_faultPlace (M_rd v)), .int (M_lastFault (M_lf v)), .int (M_lastPlace (M_lf v)), .ref (q 15), .ref (q 16), .ref (q 17), .ref (q 18), .int (M_hasImage (M_im v)), .int (M_spanNow (M_rn v)), .ref (q 19), .int (M_placeThen (M_rn v)), .int (M_alonePlace (M_al v)), .int (M_aloneSteps (M_al v)), .int (M_aloneOut (M_al v)), .ref (q 20), .ref (q 21), .ref (q 22), .ref (q 23), .int (M_shotAlarm (M_ex v)), .int (M_drawn (M_ex v))]), ((q 1), aI K 700 (M_tape (M_tp v))), ((q 2), aI K 20 (M_number (M_cd v))), ((q 3), aZ K 5 (M_isTold (M_rd v))), ((q 4), aI K 80 (M_codeSort (M_cd v))), ((q 5), aI K 80 (M_codeA (M_cd v))), ((q 6), aI K 80 (M_codeB (M_cd v))), ((q 7), aI K 80 (M_codeC (M_cd v))), ((q 8), aI K 80 (M_codeName (M_cd v))), ((q 9), aI K 80 (M_codePlace (M_cd v))), ((q 10), aI K 80 (M_codeTo (M_cd v))), ((q 11), aI K 280 (M_labelName (M_cd v))), ((q 12), aI K 280 (M_labelAt (M_cd v))), ((q 13), aI K 64 (M_data (M_cd v))), ((q 14), aZ K 32 (M_hasData (M_rd v))), ((q 15), aI K 314 (M_s (M_rn v))), ((q 16), aI K 314 (M_aside (M_ex v))), ((q 17), aI K 314 (M_further (M_ex v))), ((q 18), aI K 314 (M_image (M_im v))), ((q 19), aI K 3 (M_sizeNow (M_rn v))), ((q 20), aI K 8 (M_aloneRegister (M_al v))), ((q 21), aI K 4 (M_aloneReal (M_al v))), ((q 22), aI K 32 (M_aloneMemory (M_al v))), ((q 23), aI K 999 (M_aloneOutput (M_al v)))]) cx [.int x3] [] [] (m_M_isBranch l D K x3 hc6) ys_X10_isBranch wd_1600 ⟨rfl, rfl⟩ (by decide) rfl rfl rfl (by decide) rfl (Nat.le_of_ble_eq_true rfl) dX10_isBlocked_65 ?_
    refine r_if_eq (pc := 68) (tgt := 115) cx dX10_isBlocked_68 (by decide) (fun h7 => ?_) (fun h7 => ?_)
    · have hf := ifp h7 hf
      refine r_iload_n (pc := 115) cx dX10_isBlocked_115 0 rfl ?_
      refine r_bipush (pc := 116) cx dX10_isBlocked_116 bp_13 ?_
      refine r_icmp_eq (pc := 118) (tgt := 127) cx dX10_isBlocked_118 (by decide) (fun h8 => ?_) (fun h8 => ?_)
      · have hf := ifp h8 hf
        refine r_iload_n (pc := 127) cx dX10_isBlocked_127 2 rfl ?_
        refine r_if_ne (pc := 128) (tgt := 155) cx dX10_isBlocked_128 (by decide) (fun h9 => ?_) (fun h9 => ?_)
        · have hf := ifn h9 hf
          refine r_aload_n (pc := 155) cx dX10_isBlocked_155 1 rfl ?_
          refine r_get (pc := 156) cx cf_X10 0 26 rfl (by decide) rfl wd_1342 dX10_isBlocked_156 ?_
          refine r_bipush (pc := 159) cx dX10_isBlocked_159 bp_112 ?_
          refine r_iald (pc := 161) cx 15 rfl (by decide) dX10_isBlocked_161 ?_
          refine r_aload_n (pc := 162) cx dX10_isBlocked_162 1 rfl ?_
          refine r_get (pc := 163) cx cf_X10 0 26 rfl (by decide) rfl wd_1342 dX10_isBlocked_163 ?_
          refine r_bipush (pc := 166) cx dX10_isBlocked_166 bp_113 ?_
          refine r_iald (pc := 168) cx 15 rfl (by decide) dX10_isBlocked_168 ?_
          refine r_icmp_ne (pc := 169) (tgt := 176) cx dX10_isBlocked_169 (by decide) (fun h10 => ?_) (fun h10 => ?_)
          · have hf := ifn h10 hf
            refine r_iconst (pc := 176) cx dX10_isBlocked_176 ic_0 ?_
            cases hf
            exact r_zret (pc := 177) cx (Or.inl rfl) rfl rfl dX10_isBlocked_177
          · have hf := ifp h10 hf
            refine r_iconst (pc := 172) cx dX10_isBlocked_172 ic_1 ?_
            refine r_goto (pc := 173) (tgt := 177) cx dX10_isBlocked_173 (by decide) ?_
            cases hf
            exact r_zret (pc := 177) cx (Or.inr rfl) rfl rfl dX10_isBlocked_177
        · have hf := ifp h9 hf
          refine r_aload_n (pc := 131) cx dX10_isBlocked_131 1 rfl ?_
          refine r_get (pc := 132) cx cf_X10 0 26 rfl (by decide) rfl wd_1342 dX10_isBlocked_132 ?_
          refine r_bipush (pc := 135) cx dX10_isBlocked_135 bp_112 ?_
          refine r_iald (pc := 137) cx 15 rfl (by decide) dX10_isBlocked_137 ?_
          refine r_aload_n (pc := 138) cx dX10_isBlocked_138 1 rfl ?_
          refine r_get (pc := 139) cx cf_X10 0 32 rfl (by decide) rfl wd_1348 dX10_isBlocked_139 ?_
          refine r_iconst (pc := 142) cx dX10_isBlocked_142 ic_2 ?_
          refine r_iald (pc := 143) cx 19 rfl (by decide) dX10_isBlocked_143 ?_
          refine r_icmp_lt (pc := 144) (tgt := 151) cx dX10_isBlocked_144 (by decide) (fun h11 => ?_) (fun h11 => ?_)
          · have hf := ifp h11 hf
            refine r_iconst (pc := 151) cx dX10_isBlocked_151 ic_0 ?_
            refine r_goto (pc := 152) (tgt := 177) cx dX10_isBlocked_152 (by decide) ?_
            cases hf
            exact r_zret (pc := 177) cx (Or.inl rfl) rfl rfl dX10_isBlocked_177
          · have hf := ifn h11 hf
            refine r_iconst (pc := 147) cx dX10_isBlocked_147 ic_1 ?_
            refine r_goto (pc := 148) (tgt := 177) cx dX10_isBlocked_148 (by decide) ?_
            cases hf
            exact r_zret (pc := 177) cx (Or.inr rfl) rfl rfl dX10_isBlocked_177
      · have hf := ifn h8 hf
        refine r_iload_n (pc := 121) cx dX10_isBlocked_121 0 rfl ?_
        refine r_bipush (pc := 122) cx dX10_isBlocked_122 bp_14 ?_
        refine r_icmp_ne (pc := 124) (tgt := 178) cx dX10_isBlocked_124 (by decide) (fun h12 => ?_) (fun h12 => ?_)
        · have hf := ifn h12 hf
          refine r_iconst (pc := 178) cx dX10_isBlocked_178 ic_0 ?_
          cases hf
          exact r_zret (pc := 179) cx (Or.inl rfl) rfl rfl dX10_isBlocked_179
        · have hf := ifp h12 hf
          refine r_iload_n (pc := 127) cx dX10_isBlocked_127 2 rfl ?_
          refine r_if_ne (pc := 128) (tgt := 155) cx dX10_isBlocked_128 (by decide) (fun h13 => ?_) (fun h13 => ?_)
          · have hf := ifn h13 hf
            refine r_aload_n (pc := 155) cx dX10_isBlocked_155 1 rfl ?_
            refine r_get (pc := 156) cx cf_X10 0 26 rfl (by decide) rfl wd_1342 dX10_isBlocked_156 ?_
            refine r_bipush (pc := 159) cx dX10_isBlocked_159 bp_112 ?_
            refine r_iald (pc := 161) cx 15 rfl (by decide) dX10_isBlocked_161 ?_
            refine r_aload_n (pc := 162) cx dX10_isBlocked_162 1 rfl ?_
            refine r_get (pc := 163) cx cf_X10 0 26 rfl (by decide) rfl wd_1342 dX10_isBlocked_163 ?_
            refine r_bipush (pc := 166) cx dX10_isBlocked_166 bp_113 ?_
            refine r_iald (pc := 168) cx 15 rfl (by decide) dX10_isBlocked_168 ?_
            refine r_icmp_ne (pc := 169) (tgt := 176) cx dX10_isBlocked_169 (by decide) (fun h14 => ?_) (fun h14 => ?_)
            · have hf := ifn h14 hf
              refine r_iconst (pc := 176) cx dX10_isBlocked_176 ic_0 ?_
              cases hf
              exact r_zret (pc := 177) cx (Or.inl rfl) rfl rfl dX10_isBlocked_177
            · have hf := ifp h14 hf
              refine r_iconst (pc := 172) cx dX10_isBlocked_172 ic_1 ?_
              refine r_goto (pc := 173) (tgt := 177) cx dX10_isBlocked_173 (by decide) ?_
              cases hf
              exact r_zret (pc := 177) cx (Or.inr rfl) rfl rfl dX10_isBlocked_177
          · have hf := ifp h13 hf
            refine r_aload_n (pc := 131) cx dX10_isBlocked_131 1 rfl ?_
            refine r_get (pc := 132) cx cf_X10 0 26 rfl (by decide) rfl wd_1342 dX10_isBlocked_132 ?_
            refine r_bipush (pc := 135) cx dX10_isBlocked_135 bp_112 ?_
            refine r_iald (pc := 137) cx 15 rfl (by decide) dX10_isBlocked_137 ?_
            refine r_aload_n (pc := 138) cx dX10_isBlocked_138 1 rfl ?_
            refine r_get (pc := 139) cx cf_X10 0 32 rfl (by decide) rfl wd_1348 dX10_isBlocked_139 ?_
            refine r_iconst (pc := 142) cx dX10_isBlocked_142 ic_2 ?_
            refine r_iald (pc := 143) cx 19 rfl (by decide) dX10_isBlocked_143 ?_
            refine r_icmp_lt (pc := 144) (tgt := 151) cx dX10_isBlocked_144 (by decide) (fun h15 => ?_) (fun h15 => ?_)
            · have hf := ifp h15 hf
              refine r_iconst (pc := 151) cx dX10_isBlocked_151 ic_0 ?_
              refine r_goto (pc := 152) (tgt := 177) cx dX10_isBlocked_152 (by decide) ?_
              cases hf
              exact r_zret (pc := 177) cx (Or.inl rfl) rfl rfl dX10_isBlocked_177
            · have hf := ifn h15 hf
              refine r_iconst (pc := 147) cx dX10_isBlocked_147 ic_1 ?_
              refine r_goto (pc := 148) (tgt := 177) cx dX10_isBlocked_148 (by decide) ?_
              cases hf
              exact r_zret (pc := 177) cx (Or.inr rfl) rfl rfl dX10_isBlocked_177
    · have hf := ifn h7 hf
      refine r_iload_n (pc := 71) cx dX10_isBlocked_71 2 rfl ?_
      refine r_if_ne (pc := 72) (tgt := 99) cx dX10_isBlocked_72 (by decide) (fun h16 => ?_) (fun h16 => ?_)
      · have hf := ifn h16 hf
        refine r_aload_n (pc := 99) cx dX10_isBlocked_99 1 rfl ?_
        refine r_get (pc := 100) cx cf_X10 0 26 rfl (by decide) rfl wd_1342 dX10_isBlocked_100 ?_
        refine r_bipush (pc := 103) cx dX10_isBlocked_103 bp_103 ?_
        refine r_iald (pc := 105) cx 15 rfl (by decide) dX10_isBlocked_105 ?_
        refine r_if_ne (pc := 106) (tgt := 113) cx dX10_isBlocked_106 (by decide) (fun h17 => ?_) (fun h17 => ?_)
        · have hf := ifn h17 hf
          refine r_iconst (pc := 113) cx dX10_isBlocked_113 ic_0 ?_
          cases hf
          exact r_zret (pc := 114) cx (Or.inl rfl) rfl rfl dX10_isBlocked_114
        · have hf := ifp h17 hf
          refine r_iconst (pc := 109) cx dX10_isBlocked_109 ic_1 ?_
          refine r_goto (pc := 110) (tgt := 114) cx dX10_isBlocked_110 (by decide) ?_
          cases hf
          exact r_zret (pc := 114) cx (Or.inr rfl) rfl rfl dX10_isBlocked_114
      · have hf := ifp h16 hf
        refine r_aload_n (pc := 75) cx dX10_isBlocked_75 1 rfl ?_
        refine r_get (pc := 76) cx cf_X10 0 26 rfl (by decide) rfl wd_1342 dX10_isBlocked_76 ?_
        refine r_bipush (pc := 79) cx dX10_isBlocked_79 bp_103 ?_
        refine r_iald (pc := 81) cx 15 rfl (by decide) dX10_isBlocked_81 ?_
        refine r_aload_n (pc := 82) cx dX10_isBlocked_82 1 rfl ?_
        refine r_get (pc := 83) cx cf_X10 0 32 rfl (by decide) rfl wd_1348 dX10_isBlocked_83 ?_
        refine r_iconst (pc := 86) cx dX10_isBlocked_86 ic_1 ?_
        refine r_iald (pc := 87) cx 19 rfl (by decide) dX10_isBlocked_87 ?_
        refine r_icmp_lt (pc := 88) (tgt := 95) cx dX10_isBlocked_88 (by decide) (fun h18 => ?_) (fun h18 => ?_)
        · have hf := ifp h18 hf
          refine r_iconst (pc := 95) cx dX10_isBlocked_95 ic_0 ?_
          refine r_goto (pc := 96) (tgt := 114) cx dX10_isBlocked_96 (by decide) ?_
          cases hf
          exact r_zret (pc := 114) cx (Or.inl rfl) rfl rfl dX10_isBlocked_114
        · have hf := ifn h18 hf
          refine r_iconst (pc := 91) cx dX10_isBlocked_91 ic_1 ?_
          refine r_goto (pc := 92) (tgt := 114) cx dX10_isBlocked_92 (by decide) ?_
          cases hf
          exact r_zret (pc := 114) cx (Or.inr rfl) rfl rfl dX10_isBlocked_114
  · have hf := ifp h4 hf
    refine r_iload_n (pc := 20) cx dX10_isBlocked_20 2 rfl ?_
    refine r_if_ne (pc := 21) (tgt := 48) cx dX10_isBlocked_21 (by decide) (fun h19 => ?_) (fun h19 => ?_)
    · have hf := ifn h19 hf
      refine r_aload_n (pc := 48) cx dX10_isBlocked_48 1 rfl ?_
      refine r_get (pc := 49) cx cf_X10 0 26 rfl (by decide) rfl wd_1342 dX10_isBlocked_49 ?_
      refine r_bipush (pc := 52) cx dX10_isBlocked_52 bp_86 ?_
      refine r_iald (pc := 54) cx 15 rfl (by decide) dX10_isBlocked_54 ?_
      refine r_if_ne (pc := 55) (tgt := 62) cx dX10_isBlocked_55 (by decide) (fun h20 => ?_) (fun h20 => ?_)
      · have hf := ifn h20 hf
        refine r_iconst (pc := 62) cx dX10_isBlocked_62 ic_0 ?_
        cases hf
        exact r_zret (pc := 63) cx (Or.inl rfl) rfl rfl dX10_isBlocked_63
      · have hf := ifp h20 hf
        refine r_iconst (pc := 58) cx dX10_isBlocked_58 ic_1 ?_
        refine r_goto (pc := 59) (tgt := 63) cx dX10_isBlocked_59 (by decide) ?_
        cases hf
        exact r_zret (pc := 63) cx (Or.inr rfl) rfl rfl dX10_isBlocked_63
    · have hf := ifp h19 hf
      refine r_aload_n (pc := 24) cx dX10_isBlocked_24 1 rfl ?_
      refine r_get (pc := 25) cx cf_X10 0 26 rfl (by decide) rfl wd_1342 dX10_isBlocked_25 ?_
      refine r_bipush (pc := 28) cx dX10_isBlocked_28 bp_86 ?_
      refine r_iald (pc := 30) cx 15 rfl (by decide) dX10_isBlocked_30 ?_
      refine r_aload_n (pc := 31) cx dX10_isBlocked_31 1 rfl ?_
      refine r_get (pc := 32) cx cf_X10 0 32 rfl (by decide) rfl wd_1348 dX10_isBlocked_32 ?_
      refine r_iconst (pc := 35) cx dX10_isBlocked_35 ic_0 ?_
      refine r_iald (pc := 36) cx 19 rfl (by decide) dX10_isBlocked_36 ?_
      refine r_icmp_lt (pc := 37) (tgt := 44) cx dX10_isBlocked_37 (by decide) (fun h21 => ?_) (fun h21 => ?_)
      · have hf := ifp h21 hf
        refine r_iconst (pc := 44) cx dX10_isBlocked_44 ic_0 ?_
        refine r_goto (pc := 45) (tgt := 63) cx dX10_isBlocked_45 (by decide) ?_
        cases hf
        exact r_zret (pc := 63) cx (Or.inl rfl) rfl rfl dX10_isBlocked_63
      · have hf := ifn h21 hf
        refine r_iconst (pc := 40) cx dX10_isBlocked_40 ic_1 ?_
        refine r_goto (pc := 41) (tgt := 63) cx dX10_isBlocked_41 (by decide) ?_
        cases hf
        exact r_zret (pc := 63) cx (Or.inr rfl) rfl rfl dX10_isBlocked_63
theorem yv_X10_isBlocked : YV yX10_isBlocked cX10_isBlocked 3 (some .boolean) 1 := ⟨⟨by decide +kernel, by decide +kernel, by decide +kernel⟩, wd_1599, wd_102, wd_1598, wd_59⟩
def f_M_leaderWhy (v : T_M) : Option (Int32) :=
  (if ((M_s (M_rn v)) (2 : Int32).toNatClampNeg) < (M_spanNow (M_rn v)) then (bd (f_M_isHalted v (0 : Int32)) fun (r2 : Int32) => (if r2 = (0 : Int32) then (bd (f_M_ahead v) fun (r5 : Int32) => (if r5 < ((M_number (M_cd v)) (2 : Int32).toNatClampNeg) then (bd (f_M_isBlocked v (0 : Int32)) fun (r8 : Int32) => (if r8 = (0 : Int32) then (some (0 : Int32)) else (some (4 : Int32)))) else (some (3 : Int32)))) else (some (2 : Int32)))) else (some (1 : Int32)))
abbrev rm_M_leaderWhy : Room := { frames := 2, cells := 0, slots := 0, locals := 42 }
set_option maxRecDepth 100000 in
set_option maxHeartbeats 4000000 in
theorem m_M_leaderWhy (l : Launch) (D : va_G) (K : Nat → ClassId) (q : Nat → Nat) (v : T_M) {r_ : Int32} (hf : f_M_leaderWhy v = some r_) : MI l yX10_leaderWhy cX10_leaderWhy 1 (some .int) rm_M_leaderWhy D K [.ref (q 0)] (cl_M K q v) r_ (cl_M K q v) := by
  refine MI_of (loc0 := [(0, .ref (q 0))]) (by decide +kernel) rfl (Nat.le_of_ble_eq_true rfl) ?_
  intro p e s m args below meth c A cx
  unfold f_M_leaderWhy at hf
  refine r_ws (ws' := [((q 0), ob 9 [.int (M_thrown v), .ref (q 1), .int (M_taped (M_tp v)), .ref (q 2), .ref (q 3), .ref (q 4), .ref (q 5), .ref (q 6), .ref (q 7), .ref (q 8), .ref (q 9), .ref (q 10), .ref (q 11), .ref (q 12), .ref (q 13), .ref (q 14), .int (M_lines (M_rd v)), .int (M_size (M_rd v)), .int (M_at (M_rd v)), .int (M_place (M_rd v)), .int (M_sort (M_rd v)), .int (M_value (M_rd v)), .int (M_fault (M_rd v)), .int (M_faultPlace (M_rd v)), .int (M_lastFault (M_lf v)), .int (M_lastPlace (M_lf v)), .ref (q 15), .ref (q 16), .ref (q 17), .ref (q 18), .int (M_hasImage (M_im v)), .int (M_spanNow (M_rn v)), .ref (q 19), .int (M_placeThen (M_rn v)), .int (M_alonePlace (M_al v)), .int (M_aloneSteps (M_al v)), .int (M_aloneOut (M_al v)), .ref (q 20), .ref (q 21), .ref (q 22), .ref (q 23), .int (M_shotAlarm (M_ex v)), .int (M_drawn (M_ex v))]), ((q 1), aI K 700 (M_tape (M_tp v))), ((q 2), aI K 20 (M_number (M_cd v))), ((q 3), aZ K 5 (M_isTold (M_rd v))), ((q 4), aI K 80 (M_codeSort (M_cd v))), ((q 5), aI K 80 (M_codeA (M_cd v))), ((q 6), aI K 80 (M_codeB (M_cd v))), ((q 7), aI K 80 (M_codeC (M_cd v))), ((q 8), aI K 80 (M_codeName (M_cd v))), ((q 9), aI K 80 (M_codePlace (M_cd v))), ((q 10), aI K 80 (M_codeTo (M_cd v))), ((q 11), aI K 280 (M_labelName (M_cd v))), ((q 12), aI K 280 (M_labelAt (M_cd v))), ((q 13), aI K 64 (M_data (M_cd v))), ((q 14), aZ K 32 (M_hasData (M_rd v))), ((q 15), aI K 314 (M_s (M_rn v))), ((q 16), aI K 314 (M_aside (M_ex v))), ((q 17), aI K 314 (M_further (M_ex v))), ((q 18), aI K 314 (M_image (M_im v))), ((q 19), aI K 3 (M_sizeNow (M_rn v))), ((q 20), aI K 8 (M_aloneRegister (M_al v))), ((q 21), aI K 4 (M_aloneReal (M_al v))), ((q 22), aI K 32 (M_aloneMemory (M_al v))), ((q 23), aI K 999 (M_aloneOutput (M_al v)))]) rfl ?_
  refine r_aload_n (pc := 0) cx dX10_leaderWhy_0 0 rfl ?_
  refine r_get (pc := 1) cx cf_X10 0 26 rfl (by decide) rfl wd_1342 dX10_leaderWhy_1 ?_
  refine r_iconst (pc := 4) cx dX10_leaderWhy_4 ic_2 ?_
  refine r_iald (pc := 5) cx 15 rfl (by decide) dX10_leaderWhy_5 ?_
  refine r_aload_n (pc := 6) cx dX10_leaderWhy_6 0 rfl ?_
  refine r_get (pc := 7) cx cf_X10 0 31 rfl (by decide) rfl wd_1347 dX10_leaderWhy_7 ?_
  refine r_icmp_lt (pc := 10) (tgt := 15) cx dX10_leaderWhy_10 (by decide) (fun h1 => ?_) (fun h1 => ?_)
  · have hf := ifp h1 hf
    refine r_aload_n (pc := 15) cx dX10_leaderWhy_15 0 rfl ?_
    refine r_iconst (pc := 16) cx dX10_leaderWhy_16 ic_0 ?_
    obtain ⟨r2, hc3, hf⟩ := bd_of hf
    refine r_Vi (pc := 17) (ws' := [((q 0), ob 9 [.int (M_thrown v), .ref (q 1), .int (M_taped (M_tp v)), .ref (q 2), .ref (q 3), .ref (q 4), .ref (q 5), .ref (q 6), .ref (q 7), .ref (q 8), .ref (q 9), .ref (q 10), .ref (q 11), .ref (q 12), .ref (q 13), .ref (q 14), .int (M_lines (M_rd v)), .int (M_size (M_rd v)), .int (M_at (M_rd v)), .int (M_place (M_rd v)), .int (M_sort (M_rd v)), .int (M_value (M_rd v)), .int (M_fault (M_rd v)), .int (M_faultPlace (M_rd v)), .int (M_lastFault (M_lf v)), .int (M_lastPlace (M_lf v)), .ref (q 15), .ref (q 16), .ref (q 17), .ref (q 18), .int (M_hasImage (M_im v)), .int (M_spanNow (M_rn v)), .ref (q 19), .int (M_placeThen (M_rn v)), .int (M_alonePlace (M_al v)), .int (M_aloneSteps (M_al v)), .int (M_aloneOut (M_al v)), .ref (q 20), .ref (q 21), .ref (q 22), .ref (q 23), .int (M_shotAlarm (M_ex v)), .int (M_drawn (M_ex v))]), ((q 1), aI K 700 (M_tape (M_tp v))), ((q 2), aI K 20 (M_number (M_cd v))), ((q 3), aZ K 5 (M_isTold (M_rd v))), ((q 4), aI K 80 (M_codeSort (M_cd v))), ((q 5), aI K 80 (M_codeA (M_cd v))), ((q 6), aI K 80 (M_codeB (M_cd v))), ((q 7), aI K 80 (M_codeC (M_cd v))), ((q 8), aI K 80 (M_codeName (M_cd v))), ((q 9), aI K 80 (M_codePlace (M_cd v))), ((q 10), aI K 80 (M_codeTo (M_cd v))), ((q 11), aI K 280 (M_labelName (M_cd v))), ((q 12), aI K 280 (M_labelAt (M_cd v))), ((q 13), aI K 64 (M_data (M_cd v))), ((q 14), aZ K 32 (M_hasData (M_rd v))), ((q 15), aI K 314 (M_s (M_rn v))), ((q 16), aI K 314 (M_aside (M_ex v))), ((q 17), aI K 314 (M_further (M_ex v))), ((q 18), aI K 314 (M_image (M_im v))), ((q 19), aI K 3 (M_sizeNow (M_rn v))), ((q 20), aI K 8 (M_aloneRegister (M_al v))), ((q 21), aI K 4 (M_aloneReal (M_al v))), ((q 22), aI K 32 (M_aloneMemory (M_al v))), ((q 23), aI K 999 (M_aloneOutput (M_al v)))]) cx [.int (0 : Int32)] [] [0, 1, 2, 3, 4, 5, 6, 7, 8, 9, 10, 11, 12, 13, 14, 15, 16, 17, 18, 19, 20, 21, 22, 23] (m_M_isHalted l D K q v (0 : Int32) hc3) yv_X10_isHalted wd_1580 ⟨rfl, rfl⟩ (by decide) rfl rfl rfl (by decide) 0 rfl rfl rfl (Nat.le_of_ble_eq_true rfl) dX10_leaderWhy_17 ?_
    refine r_if_eq (pc := 20) (tgt := 25) cx dX10_leaderWhy_20 (by decide) (fun h4 => ?_) (fun h4 => ?_)
    · have hf := ifp h4 hf
      refine r_aload_n (pc := 25) cx dX10_leaderWhy_25 0 rfl ?_
      obtain ⟨r5, hc6, hf⟩ := bd_of hf
      refine r_Vi (pc := 26) (ws' := [((q 0), ob 9 [.int (M_thrown v), .ref (q 1), .int (M_taped (M_tp v)), .ref (q 2), .ref (q 3), .ref (q 4), .ref (q 5), .ref (q 6), .ref (q 7), .ref (q 8), .ref (q 9), .ref (q 10), .ref (q 11), .ref (q 12), .ref (q 13), .ref (q 14), .int (M_lines (M_rd v)), .int (M_size (M_rd v)), .int (M_at (M_rd v)), .int (M_place (M_rd v)), .int (M_sort (M_rd v)), .int (M_value (M_rd v)), .int (M_fault (M_rd v)), .int (M_faultPlace (M_rd v)), .int (M_lastFault (M_lf v)), .int (M_lastPlace (M_lf v)), .ref (q 15), .ref (q 16), .ref (q 17), .ref (q 18), .int (M_hasImage (M_im v)), .int (M_spanNow (M_rn v)), .ref (q 19), .int (M_placeThen (M_rn v)), .int (M_alonePlace (M_al v)), .int (M_aloneSteps (M_al v)), .int (M_aloneOut (M_al v)), .ref (q 20), .ref (q 21), .ref (q 22), .ref (q 23), .int (M_shotAlarm (M_ex v)), .int (M_drawn (M_ex v))]), ((q 1), aI K 700 (M_tape (M_tp v))), ((q 2), aI K 20 (M_number (M_cd v))), ((q 3), aZ K 5 (M_isTold (M_rd v))), ((q 4), aI K 80 (M_codeSort (M_cd v))), ((q 5), aI K 80 (M_codeA (M_cd v))), ((q 6), aI K 80 (M_codeB (M_cd v))), ((q 7), aI K 80 (M_codeC (M_cd v))), ((q 8), aI K 80 (M_codeName (M_cd v))), ((q 9), aI K 80 (M_codePlace (M_cd v))), ((q 10), aI K 80 (M_codeTo (M_cd v))), ((q 11), aI K 280 (M_labelName (M_cd v))), ((q 12), aI K 280 (M_labelAt (M_cd v))), ((q 13), aI K 64 (M_data (M_cd v))), ((q 14), aZ K 32 (M_hasData (M_rd v))), ((q 15), aI K 314 (M_s (M_rn v))), ((q 16), aI K 314 (M_aside (M_ex v))), ((q 17), aI K 314 (M_further (M_ex v))), ((q 18), aI K 314 (M_image (M_im v))), ((q 19), aI K 3 (M_sizeNow (M_rn v))), ((q 20), aI K 8 (M_aloneRegister (M_al v))), ((q 21), aI K 4 (M_aloneReal (M_al v))), ((q 22), aI K 32 (M_aloneMemory (M_al v))), ((q 23), aI K 999 (M_aloneOutput (M_al v)))]) cx [] [] [0, 1, 2, 3, 4, 5, 6, 7, 8, 9, 10, 11, 12, 13, 14, 15, 16, 17, 18, 19, 20, 21, 22, 23] (m_M_ahead l D K q v hc6) yv_X10_ahead wd_1588 ⟨rfl, rfl⟩ (by decide) rfl rfl rfl (by decide) 0 rfl rfl rfl (Nat.le_of_ble_eq_true rfl) dX10_leaderWhy_26 ?_
      refine r_aload_n (pc := 29) cx dX10_leaderWhy_29 0 rfl ?_
      refine r_get (pc := 30) cx cf_X10 0 3 rfl (by decide) rfl wd_1319 dX10_leaderWhy_30 ?_
      refine r_iconst (pc := 33) cx dX10_leaderWhy_33 ic_2 ?_
      refine r_iald (pc := 34) cx 2 rfl (by decide) dX10_leaderWhy_34 ?_
      refine r_icmp_lt (pc := 35) (tgt := 40) cx dX10_leaderWhy_35 (by decide) (fun h7 => ?_) (fun h7 => ?_)
      · have hf := ifp h7 hf
        refine r_aload_n (pc := 40) cx dX10_leaderWhy_40 0 rfl ?_
        refine r_iconst (pc := 41) cx dX10_leaderWhy_41 ic_0 ?_
        obtain ⟨r8, hc9, hf⟩ := bd_of hf
        refine r_Vi (pc := 42) (ws' := [((q 0), ob 9 [.int (M_thrown v), .ref (q 1), .int (M_taped (M_tp v)), .ref (q 2), .ref (q 3), .ref (q 4), .ref (q 5), .ref (q 6), .ref (q 7), .ref (q 8), .ref (q 9), .ref (q 10), .ref (q 11), .ref (q 12), .ref (q 13), .ref (q 14), .int (M_lines (M_rd v)), .int (M_size (M_rd v)), .int (M_at (M_rd v)), .int (M_place (M_rd v)), .int (M_sort (M_rd v)), .int (M_value (M_rd v)), .int (M_fault (M_rd v)), .int (M_faultPlace (M_rd v)), .int (M_lastFault (M_lf v)), .int (M_lastPlace (M_lf v)), .ref (q 15), .ref (q 16), .ref (q 17), .ref (q 18), .int (M_hasImage (M_im v)), .int (M_spanNow (M_rn v)), .ref (q 19), .int (M_placeThen (M_rn v)), .int (M_alonePlace (M_al v)), .int (M_aloneSteps (M_al v)), .int (M_aloneOut (M_al v)), .ref (q 20), .ref (q 21), .ref (q 22), .ref (q 23), .int (M_shotAlarm (M_ex v)), .int (M_drawn (M_ex v))]), ((q 1), aI K 700 (M_tape (M_tp v))), ((q 2), aI K 20 (M_number (M_cd v))), ((q 3), aZ K 5 (M_isTold (M_rd v))), ((q 4), aI K 80 (M_codeSort (M_cd v))), ((q 5), aI K 80 (M_codeA (M_cd v))), ((q 6), aI K 80 (M_codeB (M_cd v))), ((q 7), aI K 80 (M_codeC (M_cd v))), ((q 8), aI K 80 (M_codeName (M_cd v))), ((q 9), aI K 80 (M_codePlace (M_cd v))), ((q 10), aI K 80 (M_codeTo (M_cd v))), ((q 11), aI K 280 (M_labelName (M_cd v))), ((q 12), aI K 280 (M_labelAt (M_cd v))), ((q 13), aI K 64 (M_data (M_cd v))), ((q 14), aZ K 32 (M_hasData (M_rd v))), ((q 15), aI K 314 (M_s (M_rn v))), ((q 16), aI K 314 (M_aside (M_ex v))), ((q 17), aI K 314 (M_further (M_ex v))), ((q 18), aI K 314 (M_image (M_im v))), ((q 19), aI K 3 (M_sizeNow (M_rn v))), ((q 20), aI K 8 (M_aloneRegister (M_al v))), ((q 21), aI K 4 (M_aloneReal (M_al v))), ((q 22), aI K 32 (M_aloneMemory (M_al v))), ((q 23), aI K 999 (M_aloneOutput (M_al v)))]) cx [.int (0 : Int32)] [] [0, 1, 2, 3, 4, 5, 6, 7, 8, 9, 10, 11, 12, 13, 14, 15, 16, 17, 18, 19, 20, 21, 22, 23] (m_M_isBlocked l D K q v (0 : Int32) hc9) yv_X10_isBlocked wd_1596 ⟨rfl, rfl⟩ (by decide) rfl rfl rfl (by decide) 0 rfl rfl rfl (Nat.le_of_ble_eq_true rfl) dX10_leaderWhy_42 ?_
        refine r_if_eq (pc := 45) (tgt := 52) cx dX10_leaderWhy_45 (by decide) (fun h10 => ?_) (fun h10 => ?_)
        · have hf := ifp h10 hf
          refine r_iconst (pc := 52) cx dX10_leaderWhy_52 ic_0 ?_
          cases hf
          exact r_iret (pc := 53) cx rfl rfl dX10_leaderWhy_53
        · have hf := ifn h10 hf
          refine r_iconst (pc := 48) cx dX10_leaderWhy_48 ic_4 ?_
          refine r_goto (pc := 49) (tgt := 53) cx dX10_leaderWhy_49 (by decide) ?_
          cases hf
          exact r_iret (pc := 53) cx rfl rfl dX10_leaderWhy_53
      · have hf := ifn h7 hf
        refine r_iconst (pc := 38) cx dX10_leaderWhy_38 ic_3 ?_
        cases hf
        exact r_iret (pc := 39) cx rfl rfl dX10_leaderWhy_39
    · have hf := ifn h4 hf
      refine r_iconst (pc := 23) cx dX10_leaderWhy_23 ic_2 ?_
      cases hf
      exact r_iret (pc := 24) cx rfl rfl dX10_leaderWhy_24
  · have hf := ifn h1 hf
    refine r_iconst (pc := 13) cx dX10_leaderWhy_13 ic_1 ?_
    cases hf
    exact r_iret (pc := 14) cx rfl rfl dX10_leaderWhy_14
theorem yv_X10_leaderWhy : YV yX10_leaderWhy cX10_leaderWhy 1 (some .int) 0 := ⟨⟨by decide +kernel, by decide +kernel, by decide +kernel⟩, wd_1595, wd_102, wd_1594, wd_58⟩
def f_M_trailerWhy (v : T_M) : Option (Int32) :=
  (if ((M_s (M_rn v)) (3 : Int32).toNatClampNeg) < (M_spanNow (M_rn v)) then (bd (f_M_isHalted v (1 : Int32)) fun (r2 : Int32) => (if r2 = (0 : Int32) then (bd (f_M_ahead v) fun (r5 : Int32) => (if r5 < (1 : Int32) then (some (3 : Int32)) else (bd (f_M_ahead v) fun (r8 : Int32) => (if ((M_number (M_cd v)) (1 : Int32).toNatClampNeg) ≤ r8 then (bd (f_M_isBlocked v (1 : Int32)) fun (r11 : Int32) => (if r11 = (0 : Int32) then (some (0 : Int32)) else (some (4 : Int32)))) else (bd (f_M_leaderWhy v) fun (r14 : Int32) => (if r14 = (0 : Int32) then (some (3 : Int32)) else (bd (f_M_isBlocked v (1 : Int32)) fun (r17 : Int32) => (if r17 = (0 : Int32) then (some (0 : Int32)) else (some (4 : Int32)))))))))) else (some (2 : Int32)))) else (some (1 : Int32)))
abbrev rm_M_trailerWhy : Room := { frames := 3, cells := 0, slots := 0, locals := 62 }
set_option maxRecDepth 100000 in
set_option maxHeartbeats 4000000 in
theorem m_M_trailerWhy (l : Launch) (D : va_G) (K : Nat → ClassId) (q : Nat → Nat) (v : T_M) {r_ : Int32} (hf : f_M_trailerWhy v = some r_) : MI l yX10_trailerWhy cX10_trailerWhy 1 (some .int) rm_M_trailerWhy D K [.ref (q 0)] (cl_M K q v) r_ (cl_M K q v) := by
  refine MI_of (loc0 := [(0, .ref (q 0))]) (by decide +kernel) rfl (Nat.le_of_ble_eq_true rfl) ?_
  intro p e s m args below meth c A cx
  unfold f_M_trailerWhy at hf
  refine r_ws (ws' := [((q 0), ob 9 [.int (M_thrown v), .ref (q 1), .int (M_taped (M_tp v)), .ref (q 2), .ref (q 3), .ref (q 4), .ref (q 5), .ref (q 6), .ref (q 7), .ref (q 8), .ref (q 9), .ref (q 10), .ref (q 11), .ref (q 12), .ref (q 13), .ref (q 14), .int (M_lines (M_rd v)), .int (M_size (M_rd v)), .int (M_at (M_rd v)), .int (M_place (M_rd v)), .int (M_sort (M_rd v)), .int (M_value (M_rd v)), .int (M_fault (M_rd v)), .int (M_faultPlace (M_rd v)), .int (M_lastFault (M_lf v)), .int (M_lastPlace (M_lf v)), .ref (q 15), .ref (q 16), .ref (q 17), .ref (q 18), .int (M_hasImage (M_im v)), .int (M_spanNow (M_rn v)), .ref (q 19), .int (M_placeThen (M_rn v)), .int (M_alonePlace (M_al v)), .int (M_aloneSteps (M_al v)), .int (M_aloneOut (M_al v)), .ref (q 20), .ref (q 21), .ref (q 22), .ref (q 23), .int (M_shotAlarm (M_ex v)), .int (M_drawn (M_ex v))]), ((q 1), aI K 700 (M_tape (M_tp v))), ((q 2), aI K 20 (M_number (M_cd v))), ((q 3), aZ K 5 (M_isTold (M_rd v))), ((q 4), aI K 80 (M_codeSort (M_cd v))), ((q 5), aI K 80 (M_codeA (M_cd v))), ((q 6), aI K 80 (M_codeB (M_cd v))), ((q 7), aI K 80 (M_codeC (M_cd v))), ((q 8), aI K 80 (M_codeName (M_cd v))), ((q 9), aI K 80 (M_codePlace (M_cd v))), ((q 10), aI K 80 (M_codeTo (M_cd v))), ((q 11), aI K 280 (M_labelName (M_cd v))), ((q 12), aI K 280 (M_labelAt (M_cd v))), ((q 13), aI K 64 (M_data (M_cd v))), ((q 14), aZ K 32 (M_hasData (M_rd v))), ((q 15), aI K 314 (M_s (M_rn v))), ((q 16), aI K 314 (M_aside (M_ex v))), ((q 17), aI K 314 (M_further (M_ex v))), ((q 18), aI K 314 (M_image (M_im v))), ((q 19), aI K 3 (M_sizeNow (M_rn v))), ((q 20), aI K 8 (M_aloneRegister (M_al v))), ((q 21), aI K 4 (M_aloneReal (M_al v))), ((q 22), aI K 32 (M_aloneMemory (M_al v))), ((q 23), aI K 999 (M_aloneOutput (M_al v)))]) rfl ?_
  refine r_aload_n (pc := 0) cx dX10_trailerWhy_0 0 rfl ?_
  refine r_get (pc := 1) cx cf_X10 0 26 rfl (by decide) rfl wd_1342 dX10_trailerWhy_1 ?_
  refine r_iconst (pc := 4) cx dX10_trailerWhy_4 ic_3 ?_
  refine r_iald (pc := 5) cx 15 rfl (by decide) dX10_trailerWhy_5 ?_
  refine r_aload_n (pc := 6) cx dX10_trailerWhy_6 0 rfl ?_
  refine r_get (pc := 7) cx cf_X10 0 31 rfl (by decide) rfl wd_1347 dX10_trailerWhy_7 ?_
  refine r_icmp_lt (pc := 10) (tgt := 15) cx dX10_trailerWhy_10 (by decide) (fun h1 => ?_) (fun h1 => ?_)
  · have hf := ifp h1 hf
    refine r_aload_n (pc := 15) cx dX10_trailerWhy_15 0 rfl ?_
    refine r_iconst (pc := 16) cx dX10_trailerWhy_16 ic_1 ?_
    obtain ⟨r2, hc3, hf⟩ := bd_of hf
    refine r_Vi (pc := 17) (ws' := [((q 0), ob 9 [.int (M_thrown v), .ref (q 1), .int (M_taped (M_tp v)), .ref (q 2), .ref (q 3), .ref (q 4), .ref (q 5), .ref (q 6), .ref (q 7), .ref (q 8), .ref (q 9), .ref (q 10), .ref (q 11), .ref (q 12), .ref (q 13), .ref (q 14), .int (M_lines (M_rd v)), .int (M_size (M_rd v)), .int (M_at (M_rd v)), .int (M_place (M_rd v)), .int (M_sort (M_rd v)), .int (M_value (M_rd v)), .int (M_fault (M_rd v)), .int (M_faultPlace (M_rd v)), .int (M_lastFault (M_lf v)), .int (M_lastPlace (M_lf v)), .ref (q 15), .ref (q 16), .ref (q 17), .ref (q 18), .int (M_hasImage (M_im v)), .int (M_spanNow (M_rn v)), .ref (q 19), .int (M_placeThen (M_rn v)), .int (M_alonePlace (M_al v)), .int (M_aloneSteps (M_al v)), .int (M_aloneOut (M_al v)), .ref (q 20), .ref (q 21), .ref (q 22), .ref (q 23), .int (M_shotAlarm (M_ex v)), .int (M_drawn (M_ex v))]), ((q 1), aI K 700 (M_tape (M_tp v))), ((q 2), aI K 20 (M_number (M_cd v))), ((q 3), aZ K 5 (M_isTold (M_rd v))), ((q 4), aI K 80 (M_codeSort (M_cd v))), ((q 5), aI K 80 (M_codeA (M_cd v))), ((q 6), aI K 80 (M_codeB (M_cd v))), ((q 7), aI K 80 (M_codeC (M_cd v))), ((q 8), aI K 80 (M_codeName (M_cd v))), ((q 9), aI K 80 (M_codePlace (M_cd v))), ((q 10), aI K 80 (M_codeTo (M_cd v))), ((q 11), aI K 280 (M_labelName (M_cd v))), ((q 12), aI K 280 (M_labelAt (M_cd v))), ((q 13), aI K 64 (M_data (M_cd v))), ((q 14), aZ K 32 (M_hasData (M_rd v))), ((q 15), aI K 314 (M_s (M_rn v))), ((q 16), aI K 314 (M_aside (M_ex v))), ((q 17), aI K 314 (M_further (M_ex v))), ((q 18), aI K 314 (M_image (M_im v))), ((q 19), aI K 3 (M_sizeNow (M_rn v))), ((q 20), aI K 8 (M_aloneRegister (M_al v))), ((q 21), aI K 4 (M_aloneReal (M_al v))), ((q 22), aI K 32 (M_aloneMemory (M_al v))), ((q 23), aI K 999 (M_aloneOutput (M_al v)))]) cx [.int (1 : Int32)] [] [0, 1, 2, 3, 4, 5, 6, 7, 8, 9, 10, 11, 12, 13, 14, 15, 16, 17, 18, 19, 20, 21, 22, 23] (m_M_isHalted l D K q v (1 : Int32) hc3) yv_X10_isHalted wd_1580 ⟨rfl, rfl⟩ (by decide) rfl rfl rfl (by decide) 0 rfl rfl rfl (Nat.le_of_ble_eq_true rfl) dX10_trailerWhy_17 ?_
    refine r_if_eq (pc := 20) (tgt := 25) cx dX10_trailerWhy_20 (by decide) (fun h4 => ?_) (fun h4 => ?_)
    · have hf := ifp h4 hf
      refine r_aload_n (pc := 25) cx dX10_trailerWhy_25 0 rfl ?_
      obtain ⟨r5, hc6, hf⟩ := bd_of hf
      refine r_Vi (pc := 26) (ws' := [((q 0), ob 9 [.int (M_thrown v), .ref (q 1), .int (M_taped (M_tp v)), .ref (q 2), .ref (q 3), .ref (q 4), .ref (q 5), .ref (q 6), .ref (q 7), .ref (q 8), .ref (q 9), .ref (q 10), .ref (q 11), .ref (q 12), .ref (q 13), .ref (q 14), .int (M_lines (M_rd v)), .int (M_size (M_rd v)), .int (M_at (M_rd v)), .int (M_place (M_rd v)), .int (M_sort (M_rd v)), .int (M_value (M_rd v)), .int (M_fault (M_rd v)), .int (M_faultPlace (M_rd v)), .int (M_lastFault (M_lf v)), .int (M_lastPlace (M_lf v)), .ref (q 15), .ref (q 16), .ref (q 17), .ref (q 18), .int (M_hasImage (M_im v)), .int (M_spanNow (M_rn v)), .ref (q 19), .int (M_placeThen (M_rn v)), .int (M_alonePlace (M_al v)), .int (M_aloneSteps (M_al v)), .int (M_aloneOut (M_al v)), .ref (q 20), .ref (q 21), .ref (q 22), .ref (q 23), .int (M_shotAlarm (M_ex v)), .int (M_drawn (M_ex v))]), ((q 1), aI K 700 (M_tape (M_tp v))), ((q 2), aI K 20 (M_number (M_cd v))), ((q 3), aZ K 5 (M_isTold (M_rd v))), ((q 4), aI K 80 (M_codeSort (M_cd v))), ((q 5), aI K 80 (M_codeA (M_cd v))), ((q 6), aI K 80 (M_codeB (M_cd v))), ((q 7), aI K 80 (M_codeC (M_cd v))), ((q 8), aI K 80 (M_codeName (M_cd v))), ((q 9), aI K 80 (M_codePlace (M_cd v))), ((q 10), aI K 80 (M_codeTo (M_cd v))), ((q 11), aI K 280 (M_labelName (M_cd v))), ((q 12), aI K 280 (M_labelAt (M_cd v))), ((q 13), aI K 64 (M_data (M_cd v))), ((q 14), aZ K 32 (M_hasData (M_rd v))), ((q 15), aI K 314 (M_s (M_rn v))), ((q 16), aI K 314 (M_aside (M_ex v))), ((q 17), aI K 314 (M_further (M_ex v))), ((q 18), aI K 314 (M_image (M_im v))), ((q 19), aI K 3 (M_sizeNow (M_rn v))), ((q 20), aI K 8 (M_aloneRegister (M_al v))), ((q 21), aI K 4 (M_aloneReal (M_al v))), ((q 22), aI K 32 (M_aloneMemory (M_al v))), ((q 23), aI K 999 (M_aloneOutput (M_al v)))]) cx [] [] [0, 1, 2, 3, 4, 5, 6, 7, 8, 9, 10, 11, 12, 13, 14, 15, 16, 17, 18, 19, 20, 21, 22, 23] (m_M_ahead l D K q v hc6) yv_X10_ahead wd_1588 ⟨rfl, rfl⟩ (by decide) rfl rfl rfl (by decide) 0 rfl rfl rfl (Nat.le_of_ble_eq_true rfl) dX10_trailerWhy_26 ?_
      refine r_iconst (pc := 29) cx dX10_trailerWhy_29 ic_1 ?_
      refine r_icmp_lt (pc := 30) (tgt := 53) cx dX10_trailerWhy_30 (by decide) (fun h7 => ?_) (fun h7 => ?_)
      · have hf := ifp h7 hf
        refine r_iconst (pc := 53) cx dX10_trailerWhy_53 ic_3 ?_
        cases hf
        exact r_iret (pc := 54) cx rfl rfl dX10_trailerWhy_54
      · have hf := ifn h7 hf
        refine r_aload_n (pc := 33) cx dX10_trailerWhy_33 0 rfl ?_
        obtain ⟨r8, hc9, hf⟩ := bd_of hf
        refine r_Vi (pc := 34) (ws' := [((q 0), ob 9 [.int (M_thrown v), .ref (q 1), .int (M_taped (M_tp v)), .ref (q 2), .ref (q 3), .ref (q 4), .ref (q 5), .ref (q 6), .ref (q 7), .ref (q 8), .ref (q 9), .ref (q 10), .ref (q 11), .ref (q 12), .ref (q 13), .ref (q 14), .int (M_lines (M_rd v)), .int (M_size (M_rd v)), .int (M_at (M_rd v)), .int (M_place (M_rd v)), .int (M_sort (M_rd v)), .int (M_value (M_rd v)), .int (M_fault (M_rd v)), .int (M_faultPlace (M_rd v)), .int (M_lastFault (M_lf v)), .int (M_lastPlace (M_lf v)), .ref (q 15), .ref (q 16), .ref (q 17), .ref (q 18), .int (M_hasImage (M_im v)), .int (M_spanNow (M_rn v)), .ref (q 19), .int (M_placeThen (M_rn v)), .int (M_alonePlace (M_al v)), .int (M_aloneSteps (M_al v)), .int (M_aloneOut (M_al v)), .ref (q 20), .ref (q 21), .ref (q 22), .ref (q 23), .int (M_shotAlarm (M_ex v)), .int (M_drawn (M_ex v))]), ((q 1), aI K 700 (M_tape (M_tp v))), ((q 2), aI K 20 (M_number (M_cd v))), ((q 3), aZ K 5 (M_isTold (M_rd v))), ((q 4), aI K 80 (M_codeSort (M_cd v))), ((q 5), aI K 80 (M_codeA (M_cd v))), ((q 6), aI K 80 (M_codeB (M_cd v))), ((q 7), aI K 80 (M_codeC (M_cd v))), ((q 8), aI K 80 (M_codeName (M_cd v))), ((q 9), aI K 80 (M_codePlace (M_cd v))), ((q 10), aI K 80 (M_codeTo (M_cd v))), ((q 11), aI K 280 (M_labelName (M_cd v))), ((q 12), aI K 280 (M_labelAt (M_cd v))), ((q 13), aI K 64 (M_data (M_cd v))), ((q 14), aZ K 32 (M_hasData (M_rd v))), ((q 15), aI K 314 (M_s (M_rn v))), ((q 16), aI K 314 (M_aside (M_ex v))), ((q 17), aI K 314 (M_further (M_ex v))), ((q 18), aI K 314 (M_image (M_im v))), ((q 19), aI K 3 (M_sizeNow (M_rn v))), ((q 20), aI K 8 (M_aloneRegister (M_al v))), ((q 21), aI K 4 (M_aloneReal (M_al v))), ((q 22), aI K 32 (M_aloneMemory (M_al v))), ((q 23), aI K 999 (M_aloneOutput (M_al v)))]) cx [] [] [0, 1, 2, 3, 4, 5, 6, 7, 8, 9, 10, 11, 12, 13, 14, 15, 16, 17, 18, 19, 20, 21, 22, 23] (m_M_ahead l D K q v hc9) yv_X10_ahead wd_1588 ⟨rfl, rfl⟩ (by decide) rfl rfl rfl (by decide) 0 rfl rfl rfl (Nat.le_of_ble_eq_true rfl) dX10_trailerWhy_34 ?_
        refine r_aload_n (pc := 37) cx dX10_trailerWhy_37 0 rfl ?_
        refine r_get (pc := 38) cx cf_X10 0 3 rfl (by decide) rfl wd_1319 dX10_trailerWhy_38 ?_
        refine r_iconst (pc := 41) cx dX10_trailerWhy_41 ic_1 ?_
        refine r_iald (pc := 42) cx 2 rfl (by decide) dX10_trailerWhy_42 ?_
        refine r_icmp_ge (pc := 43) (tgt := 55) cx dX10_trailerWhy_43 (by decide) (fun h10 => ?_) (fun h10 => ?_)
        · have hf := ifp h10 hf
          refine r_aload_n (pc := 55) cx dX10_trailerWhy_55 0 rfl ?_
          refine r_iconst (pc := 56) cx dX10_trailerWhy_56 ic_1 ?_
          obtain ⟨r11, hc12, hf⟩ := bd_of hf
          refine r_Vi (pc := 57) (ws' := [((q 0), ob 9 [.int (M_thrown v), .ref (q 1), .int (M_taped (M_tp v)), .ref (q 2), .ref (q 3), .ref (q 4), .ref (q 5), .ref (q 6), .ref (q 7), .ref (q 8), .ref (q 9), .ref (q 10), .ref (q 11), .ref (q 12), .ref (q 13), .ref (q 14), .int (M_lines (M_rd v)), .int (M_size (M_rd v)), .int (M_at (M_rd v)), .int (M_place (M_rd v)), .int (M_sort (M_rd v)), .int (M_value (M_rd v)), .int (M_fault (M_rd v)), .int (M_faultPlace (M_rd v)), .int (M_lastFault (M_lf v)), .int (M_lastPlace (M_lf v)), .ref (q 15), .ref (q 16), .ref (q 17), .ref (q 18), .int (M_hasImage (M_im v)), .int (M_spanNow (M_rn v)), .ref (q 19), .int (M_placeThen (M_rn v)), .int (M_alonePlace (M_al v)), .int (M_aloneSteps (M_al v)), .int (M_aloneOut (M_al v)), .ref (q 20), .ref (q 21), .ref (q 22), .ref (q 23), .int (M_shotAlarm (M_ex v)), .int (M_drawn (M_ex v))]), ((q 1), aI K 700 (M_tape (M_tp v))), ((q 2), aI K 20 (M_number (M_cd v))), ((q 3), aZ K 5 (M_isTold (M_rd v))), ((q 4), aI K 80 (M_codeSort (M_cd v))), ((q 5), aI K 80 (M_codeA (M_cd v))), ((q 6), aI K 80 (M_codeB (M_cd v))), ((q 7), aI K 80 (M_codeC (M_cd v))), ((q 8), aI K 80 (M_codeName (M_cd v))), ((q 9), aI K 80 (M_codePlace (M_cd v))), ((q 10), aI K 80 (M_codeTo (M_cd v))), ((q 11), aI K 280 (M_labelName (M_cd v))), ((q 12), aI K 280 (M_labelAt (M_cd v))), ((q 13), aI K 64 (M_data (M_cd v))), ((q 14), aZ K 32 (M_hasData (M_rd v))), ((q 15), aI K 314 (M_s (M_rn v))), ((q 16), aI K 314 (M_aside (M_ex v))), ((q 17), aI K 314 (M_further (M_ex v))), ((q 18), aI K 314 (M_image (M_im v))), ((q 19), aI K 3 (M_sizeNow (M_rn v))), ((q 20), aI K 8 (M_aloneRegister (M_al v))), ((q 21), aI K 4 (M_aloneReal (M_al v))), ((q 22), aI K 32 (M_aloneMemory (M_al v))), ((q 23), aI K 999 (M_aloneOutput (M_al v)))]) cx [.int (1 : Int32)] [] [0, 1, 2, 3, 4, 5, 6, 7, 8, 9, 10, 11, 12, 13, 14, 15, 16, 17, 18, 19, 20, 21, 22, 23] (m_M_isBlocked l D K q v (1 : Int32) hc12) yv_X10_isBlocked wd_1596 ⟨rfl, rfl⟩ (by decide) rfl rfl rfl (by decide) 0 rfl rfl rfl (Nat.le_of_ble_eq_true rfl) dX10_trailerWhy_57 ?_
          refine r_if_eq (pc := 60) (tgt := 67) cx dX10_trailerWhy_60 (by decide) (fun h13 => ?_) (fun h13 => ?_)
          · have hf := ifp h13 hf
            refine r_iconst (pc := 67) cx dX10_trailerWhy_67 ic_0 ?_
            cases hf
            exact r_iret (pc := 68) cx rfl rfl dX10_trailerWhy_68
          · have hf := ifn h13 hf
            refine r_iconst (pc := 63) cx dX10_trailerWhy_63 ic_4 ?_
            refine r_goto (pc := 64) (tgt := 68) cx dX10_trailerWhy_64 (by decide) ?_
            cases hf
            exact r_iret (pc := 68) cx rfl rfl dX10_trailerWhy_68
        · have hf := ifn h10 hf
          refine r_aload_n (pc := 46) cx dX10_trailerWhy_46 0 rfl ?_
          obtain ⟨r14, hc15, hf⟩ := bd_of hf
          refine r_Vi (pc := 47) (ws' := [((q 0), ob 9 [.int (M_thrown v), .ref (q 1), .int (M_taped (M_tp v)), .ref (q 2), .ref (q 3), .ref (q 4), .ref (q 5), .ref (q 6), .ref (q 7), .ref (q 8), .ref (q 9), .ref (q 10), .ref (q 11), .ref (q 12), .ref (q 13), .ref (q 14), .int (M_lines (M_rd v)), .int (M_size (M_rd v)), .int (M_at (M_rd v)), .int (M_place (M_rd v)), .int (M_sort (M_rd v)), .int (M_value (M_rd v)), .int (M_fault (M_rd v)), .int (M_faultPlace (M_rd v)), .int (M_lastFault (M_lf v)), .int (M_lastPlace (M_lf v)), .ref (q 15), .ref (q 16), .ref (q 17), .ref (q 18), .int (M_hasImage (M_im v)), .int (M_spanNow (M_rn v)), .ref (q 19), .int (M_placeThen (M_rn v)), .int (M_alonePlace (M_al v)), .int (M_aloneSteps (M_al v)), .int (M_aloneOut (M_al v)), .ref (q 20), .ref (q 21), .ref (q 22), .ref (q 23), .int (M_shotAlarm (M_ex v)), .int (M_drawn (M_ex v))]), ((q 1), aI K 700 (M_tape (M_tp v))), ((q 2), aI K 20 (M_number (M_cd v))), ((q 3), aZ K 5 (M_isTold (M_rd v))), ((q 4), aI K 80 (M_codeSort (M_cd v))), ((q 5), aI K 80 (M_codeA (M_cd v))), ((q 6), aI K 80 (M_codeB (M_cd v))), ((q 7), aI K 80 (M_codeC (M_cd v))), ((q 8), aI K 80 (M_codeName (M_cd v))), ((q 9), aI K 80 (M_codePlace (M_cd v))), ((q 10), aI K 80 (M_codeTo (M_cd v))), ((q 11), aI K 280 (M_labelName (M_cd v))), ((q 12), aI K 280 (M_labelAt (M_cd v))), ((q 13), aI K 64 (M_data (M_cd v))), ((q 14), aZ K 32 (M_hasData (M_rd v))), ((q 15), aI K 314 (M_s (M_rn v))), ((q 16), aI K 314 (M_aside (M_ex v))), ((q 17), aI K 314 (M_further (M_ex v))), ((q 18), aI K 314 (M_image (M_im v))), ((q 19), aI K 3 (M_sizeNow (M_rn v))), ((q 20), aI K 8 (M_aloneRegister (M_al v))), ((q 21), aI K 4 (M_aloneReal (M_al v))), ((q 22), aI K 32 (M_aloneMemory (M_al v))), ((q 23), aI K 999 (M_aloneOutput (M_al v)))]) cx [] [] [0, 1, 2, 3, 4, 5, 6, 7, 8, 9, 10, 11, 12, 13, 14, 15, 16, 17, 18, 19, 20, 21, 22, 23] (m_M_leaderWhy l D K q v hc15) yv_X10_leaderWhy wd_1592 ⟨rfl, rfl⟩ (by decide) rfl rfl rfl (by decide) 0 rfl rfl rfl (Nat.le_of_ble_eq_true rfl) dX10_trailerWhy_47 ?_
          refine r_if_ne (pc := 50) (tgt := 55) cx dX10_trailerWhy_50 (by decide) (fun h16 => ?_) (fun h16 => ?_)
          · have hf := ifn h16 hf
            refine r_aload_n (pc := 55) cx dX10_trailerWhy_55 0 rfl ?_
            refine r_iconst (pc := 56) cx dX10_trailerWhy_56 ic_1 ?_
            obtain ⟨r17, hc18, hf⟩ := bd_of hf
            refine r_Vi (pc := 57) (ws' := [((q 0), ob 9 [.int (M_thrown v), .ref (q 1), .int (M_taped (M_tp v)), .ref (q 2), .ref (q 3), .ref (q 4), .ref (q 5), .ref (q 6), .ref (q 7), .ref (q 8), .ref (q 9), .ref (q 10), .ref (q 11), .ref (q 12), .ref (q 13), .ref (q 14), .int (M_lines (M_rd v)), .int (M_size (M_rd v)), .int (M_at (M_rd v)), .int (M_place (M_rd v)), .int (M_sort (M_rd v)), .int (M_value (M_rd v)), .int (M_fault (M_rd v)), .int (M_faultPlace (M_rd v)), .int (M_lastFault (M_lf v)), .int (M_lastPlace (M_lf v)), .ref (q 15), .ref (q 16), .ref (q 17), .ref (q 18), .int (M_hasImage (M_im v)), .int (M_spanNow (M_rn v)), .ref (q 19), .int (M_placeThen (M_rn v)), .int (M_alonePlace (M_al v)), .int (M_aloneSteps (M_al v)), .int (M_aloneOut (M_al v)), .ref (q 20), .ref (q 21), .ref (q 22), .ref (q 23), .int (M_shotAlarm (M_ex v)), .int (M_drawn (M_ex v))]), ((q 1), aI K 700 (M_tape (M_tp v))), ((q 2), aI K 20 (M_number (M_cd v))), ((q 3), aZ K 5 (M_isTold (M_rd v))), ((q 4), aI K 80 (M_codeSort (M_cd v))), ((q 5), aI K 80 (M_codeA (M_cd v))), ((q 6), aI K 80 (M_codeB (M_cd v))), ((q 7), aI K 80 (M_codeC (M_cd v))), ((q 8), aI K 80 (M_codeName (M_cd v))), ((q 9), aI K 80 (M_codePlace (M_cd v))), ((q 10), aI K 80 (M_codeTo (M_cd v))), ((q 11), aI K 280 (M_labelName (M_cd v))), ((q 12), aI K 280 (M_labelAt (M_cd v))), ((q 13), aI K 64 (M_data (M_cd v))), ((q 14), aZ K 32 (M_hasData (M_rd v))), ((q 15), aI K 314 (M_s (M_rn v))), ((q 16), aI K 314 (M_aside (M_ex v))), ((q 17), aI K 314 (M_further (M_ex v))), ((q 18), aI K 314 (M_image (M_im v))), ((q 19), aI K 3 (M_sizeNow (M_rn v))), ((q 20), aI K 8 (M_aloneRegister (M_al v))), ((q 21), aI K 4 (M_aloneReal (M_al v))), ((q 22), aI K 32 (M_aloneMemory (M_al v))), ((q 23), aI K 999 (M_aloneOutput (M_al v)))]) cx [.int (1 : Int32)] [] [0, 1, 2, 3, 4, 5, 6, 7, 8, 9, 10, 11, 12, 13, 14, 15, 16, 17, 18, 19, 20, 21, 22, 23] (m_M_isBlocked l D K q v (1 : Int32) hc18) yv_X10_isBlocked wd_1596 ⟨rfl, rfl⟩ (by decide) rfl rfl rfl (by decide) 0 rfl rfl rfl (Nat.le_of_ble_eq_true rfl) dX10_trailerWhy_57 ?_
            refine r_if_eq (pc := 60) (tgt := 67) cx dX10_trailerWhy_60 (by decide) (fun h19 => ?_) (fun h19 => ?_)
            · have hf := ifp h19 hf
              refine r_iconst (pc := 67) cx dX10_trailerWhy_67 ic_0 ?_
              cases hf
              exact r_iret (pc := 68) cx rfl rfl dX10_trailerWhy_68
            · have hf := ifn h19 hf
              refine r_iconst (pc := 63) cx dX10_trailerWhy_63 ic_4 ?_
              refine r_goto (pc := 64) (tgt := 68) cx dX10_trailerWhy_64 (by decide) ?_
              cases hf
              exact r_iret (pc := 68) cx rfl rfl dX10_trailerWhy_68
          · have hf := ifp h16 hf
            refine r_iconst (pc := 53) cx dX10_trailerWhy_53 ic_3 ?_
            cases hf
            exact r_iret (pc := 54) cx rfl rfl dX10_trailerWhy_54
    · have hf := ifn h4 hf
      refine r_iconst (pc := 23) cx dX10_trailerWhy_23 ic_2 ?_
      cases hf
      exact r_iret (pc := 24) cx rfl rfl dX10_trailerWhy_24
  · have hf := ifn h1 hf
    refine r_iconst (pc := 13) cx dX10_trailerWhy_13 ic_1 ?_
    cases hf
    exact r_iret (pc := 14) cx rfl rfl dX10_trailerWhy_14
theorem yv_X10_trailerWhy : YV yX10_trailerWhy cX10_trailerWhy 1 (some .int) 0 := ⟨⟨by decide +kernel, by decide +kernel, by decide +kernel⟩, wd_1579, wd_102, wd_1578, wd_54⟩
def f_M_why (v : T_M) (a1 : Int32) : Option (Int32) :=
  (if a1 = (0 : Int32) then (bd (f_M_leaderWhy v) fun (r4 : Int32) => (some r4)) else (bd (f_M_trailerWhy v) fun (r2 : Int32) => (some r2)))
abbrev rm_M_why : Room := { frames := 4, cells := 0, slots := 0, locals := 82 }
set_option maxRecDepth 100000 in
set_option maxHeartbeats 4000000 in
theorem m_M_why (l : Launch) (D : va_G) (K : Nat → ClassId) (q : Nat → Nat) (v : T_M) (a1 : Int32) {r_ : Int32} (hf : f_M_why v a1 = some r_) : MI l yX10_why cX10_why 2 (some .int) rm_M_why D K [.ref (q 0), .int a1] (cl_M K q v) r_ (cl_M K q v) := by
  refine MI_of (loc0 := [(0, .ref (q 0)), (1, .int a1)]) (by decide +kernel) rfl (Nat.le_of_ble_eq_true rfl) ?_
  intro p e s m args below meth c A cx
  unfold f_M_why at hf
  refine r_ws (ws' := [((q 0), ob 9 [.int (M_thrown v), .ref (q 1), .int (M_taped (M_tp v)), .ref (q 2), .ref (q 3), .ref (q 4), .ref (q 5), .ref (q 6), .ref (q 7), .ref (q 8), .ref (q 9), .ref (q 10), .ref (q 11), .ref (q 12), .ref (q 13), .ref (q 14), .int (M_lines (M_rd v)), .int (M_size (M_rd v)), .int (M_at (M_rd v)), .int (M_place (M_rd v)), .int (M_sort (M_rd v)), .int (M_value (M_rd v)), .int (M_fault (M_rd v)), .int (M_faultPlace (M_rd v)), .int (M_lastFault (M_lf v)), .int (M_lastPlace (M_lf v)), .ref (q 15), .ref (q 16), .ref (q 17), .ref (q 18), .int (M_hasImage (M_im v)), .int (M_spanNow (M_rn v)), .ref (q 19), .int (M_placeThen (M_rn v)), .int (M_alonePlace (M_al v)), .int (M_aloneSteps (M_al v)), .int (M_aloneOut (M_al v)), .ref (q 20), .ref (q 21), .ref (q 22), .ref (q 23), .int (M_shotAlarm (M_ex v)), .int (M_drawn (M_ex v))]), ((q 1), aI K 700 (M_tape (M_tp v))), ((q 2), aI K 20 (M_number (M_cd v))), ((q 3), aZ K 5 (M_isTold (M_rd v))), ((q 4), aI K 80 (M_codeSort (M_cd v))), ((q 5), aI K 80 (M_codeA (M_cd v))), ((q 6), aI K 80 (M_codeB (M_cd v))), ((q 7), aI K 80 (M_codeC (M_cd v))), ((q 8), aI K 80 (M_codeName (M_cd v))), ((q 9), aI K 80 (M_codePlace (M_cd v))), ((q 10), aI K 80 (M_codeTo (M_cd v))), ((q 11), aI K 280 (M_labelName (M_cd v))), ((q 12), aI K 280 (M_labelAt (M_cd v))), ((q 13), aI K 64 (M_data (M_cd v))), ((q 14), aZ K 32 (M_hasData (M_rd v))), ((q 15), aI K 314 (M_s (M_rn v))), ((q 16), aI K 314 (M_aside (M_ex v))), ((q 17), aI K 314 (M_further (M_ex v))), ((q 18), aI K 314 (M_image (M_im v))), ((q 19), aI K 3 (M_sizeNow (M_rn v))), ((q 20), aI K 8 (M_aloneRegister (M_al v))), ((q 21), aI K 4 (M_aloneReal (M_al v))), ((q 22), aI K 32 (M_aloneMemory (M_al v))), ((q 23), aI K 999 (M_aloneOutput (M_al v)))]) rfl ?_
  refine r_iload_n (pc := 0) cx dX10_why_0 1 rfl ?_
  refine r_if_ne (pc := 1) (tgt := 11) cx dX10_why_1 (by decide) (fun h1 => ?_) (fun h1 => ?_)
  · have hf := ifn h1 hf
    refine r_aload_n (pc := 11) cx dX10_why_11 0 rfl ?_
    obtain ⟨r2, hc3, hf⟩ := bd_of hf
    refine r_Vi (pc := 12) (ws' := [((q 0), ob 9 [.int (M_thrown v), .ref (q 1), .int (M_taped (M_tp v)), .ref (q 2), .ref (q 3), .ref (q 4), .ref (q 5), .ref (q 6), .ref (q 7), .ref (q 8), .ref (q 9), .ref (q 10), .ref (q 11), .ref (q 12), .ref (q 13), .ref (q 14), .int (M_lines (M_rd v)), .int (M_size (M_rd v)), .int (M_at (M_rd v)), .int (M_place (M_rd v)), .int (M_sort (M_rd v)), .int (M_value (M_rd v)), .int (M_fault (M_rd v)), .int (M_faultPlace (M_rd v)), .int (M_lastFault (M_lf v)), .int (M_lastPlace (M_lf v)), .ref (q 15), .ref (q 16), .ref (q 17), .ref (q 18), .int (M_hasImage (M_im v)), .int (M_spanNow (M_rn v)), .ref (q 19), .int (M_placeThen (M_rn v)), .int (M_alonePlace (M_al v)), .int (M_aloneSteps (M_al v)), .int (M_aloneOut (M_al v)), .ref (q 20), .ref (q 21), .ref (q 22), .ref (q 23), .int (M_shotAlarm (M_ex v)), .int (M_drawn (M_ex v))]), ((q 1), aI K 700 (M_tape (M_tp v))), ((q 2), aI K 20 (M_number (M_cd v))), ((q 3), aZ K 5 (M_isTold (M_rd v))), ((q 4), aI K 80 (M_codeSort (M_cd v))), ((q 5), aI K 80 (M_codeA (M_cd v))), ((q 6), aI K 80 (M_codeB (M_cd v))), ((q 7), aI K 80 (M_codeC (M_cd v))), ((q 8), aI K 80 (M_codeName (M_cd v))), ((q 9), aI K 80 (M_codePlace (M_cd v))), ((q 10), aI K 80 (M_codeTo (M_cd v))), ((q 11), aI K 280 (M_labelName (M_cd v))), ((q 12), aI K 280 (M_labelAt (M_cd v))), ((q 13), aI K 64 (M_data (M_cd v))), ((q 14), aZ K 32 (M_hasData (M_rd v))), ((q 15), aI K 314 (M_s (M_rn v))), ((q 16), aI K 314 (M_aside (M_ex v))), ((q 17), aI K 314 (M_further (M_ex v))), ((q 18), aI K 314 (M_image (M_im v))), ((q 19), aI K 3 (M_sizeNow (M_rn v))), ((q 20), aI K 8 (M_aloneRegister (M_al v))), ((q 21), aI K 4 (M_aloneReal (M_al v))), ((q 22), aI K 32 (M_aloneMemory (M_al v))), ((q 23), aI K 999 (M_aloneOutput (M_al v)))]) cx [] [] [0, 1, 2, 3, 4, 5, 6, 7, 8, 9, 10, 11, 12, 13, 14, 15, 16, 17, 18, 19, 20, 21, 22, 23] (m_M_trailerWhy l D K q v hc3) yv_X10_trailerWhy wd_1576 ⟨rfl, rfl⟩ (by decide) rfl rfl rfl (by decide) 0 rfl rfl rfl (Nat.le_of_ble_eq_true rfl) dX10_why_12 ?_
    cases hf
    exact r_iret (pc := 15) cx rfl rfl dX10_why_15
  · have hf := ifp h1 hf
    refine r_aload_n (pc := 4) cx dX10_why_4 0 rfl ?_
    obtain ⟨r4, hc5, hf⟩ := bd_of hf
    refine r_Vi (pc := 5) (ws' := [((q 0), ob 9 [.int (M_thrown v), .ref (q 1), .int (M_taped (M_tp v)), .ref (q 2), .ref (q 3), .ref (q 4), .ref (q 5), .ref (q 6), .ref (q 7), .ref (q 8), .ref (q 9), .ref (q 10), .ref (q 11), .ref (q 12), .ref (q 13), .ref (q 14), .int (M_lines (M_rd v)), .int (M_size (M_rd v)), .int (M_at (M_rd v)), .int (M_place (M_rd v)), .int (M_sort (M_rd v)), .int (M_value (M_rd v)), .int (M_fault (M_rd v)), .int (M_faultPlace (M_rd v)), .int (M_lastFault (M_lf v)), .int (M_lastPlace (M_lf v)), .ref (q 15), .ref (q 16), .ref (q 17), .ref (q 18), .int (M_hasImage (M_im v)), .int (M_spanNow (M_rn v)), .ref (q 19), .int (M_placeThen (M_rn v)), .int (M_alonePlace (M_al v)), .int (M_aloneSteps (M_al v)), .int (M_aloneOut (M_al v)), .ref (q 20), .ref (q 21), .ref (q 22), .ref (q 23), .int (M_shotAlarm (M_ex v)), .int (M_drawn (M_ex v))]), ((q 1), aI K 700 (M_tape (M_tp v))), ((q 2), aI K 20 (M_number (M_cd v))), ((q 3), aZ K 5 (M_isTold (M_rd v))), ((q 4), aI K 80 (M_codeSort (M_cd v))), ((q 5), aI K 80 (M_codeA (M_cd v))), ((q 6), aI K 80 (M_codeB (M_cd v))), ((q 7), aI K 80 (M_codeC (M_cd v))), ((q 8), aI K 80 (M_codeName (M_cd v))), ((q 9), aI K 80 (M_codePlace (M_cd v))), ((q 10), aI K 80 (M_codeTo (M_cd v))), ((q 11), aI K 280 (M_labelName (M_cd v))), ((q 12), aI K 280 (M_labelAt (M_cd v))), ((q 13), aI K 64 (M_data (M_cd v))), ((q 14), aZ K 32 (M_hasData (M_rd v))), ((q 15), aI K 314 (M_s (M_rn v))), ((q 16), aI K 314 (M_aside (M_ex v))), ((q 17), aI K 314 (M_further (M_ex v))), ((q 18), aI K 314 (M_image (M_im v))), ((q 19), aI K 3 (M_sizeNow (M_rn v))), ((q 20), aI K 8 (M_aloneRegister (M_al v))), ((q 21), aI K 4 (M_aloneReal (M_al v))), ((q 22), aI K 32 (M_aloneMemory (M_al v))), ((q 23), aI K 999 (M_aloneOutput (M_al v)))]) cx [] [] [0, 1, 2, 3, 4, 5, 6, 7, 8, 9, 10, 11, 12, 13, 14, 15, 16, 17, 18, 19, 20, 21, 22, 23] (m_M_leaderWhy l D K q v hc5) yv_X10_leaderWhy wd_1592 ⟨rfl, rfl⟩ (by decide) rfl rfl rfl (by decide) 0 rfl rfl rfl (Nat.le_of_ble_eq_true rfl) dX10_why_5 ?_
    refine r_goto (pc := 8) (tgt := 15) cx dX10_why_8 (by decide) ?_
    cases hf
    exact r_iret (pc := 15) cx rfl rfl dX10_why_15
theorem yv_X10_why : YV yX10_why cX10_why 2 (some .int) 1 := ⟨⟨by decide +kernel, by decide +kernel, by decide +kernel⟩, wd_1732, wd_102, wd_1731, wd_77⟩
def f_M_sticks_L2  (k2_62 : (Nat → Int32) → Option (T_M)) : Nat → Int32 → (Nat → Int32) → Option (T_M)
  | 0, _, _ => none
  | n2 + 1, x1, f2 =>
    (if (16 : Int32) ≤ x1 then (k2_62 f2) else (if ix ((4 : Int32) + x1) 314 then (if ix ((54 : Int32) + x1) 314 then (if ix ((70 : Int32) + x1) 314 then (if ix ((54 : Int32) + x1) 314 then (nm (((f2 (((4 : Int32) + x1)).toNatClampNeg) &&& ((f2 (((54 : Int32) + x1)).toNatClampNeg) ^^^ (-1 : Int32))) ||| ((f2 (((70 : Int32) + x1)).toNatClampNeg) &&& (f2 (((54 : Int32) + x1)).toNatClampNeg))) fun (x9 : Int32) => (if ix ((4 : Int32) + x1) 314 then (nm (upd f2 (((4 : Int32) + x1)).toNatClampNeg x9) fun (f11 : Nat → Int32) => (nm (x1 + (1 : Int32)) fun (x12 : Int32) => (f_M_sticks_L2 k2_62 n2 x12 f11))) else none)) else none) else none) else none) else none))
def f_M_sticks (v : T_M) : Option (T_M) :=
  (f_M_sticks_L2 (fun (f3 : (Nat → Int32)) => (some ((M_tp v), (M_rd v), (M_lf v), (M_cd v), (f3, (M_spanNow (M_rn v)), (M_sizeNow (M_rn v)), (M_placeThen (M_rn v))), (M_ex v), (M_im v), (M_al v), (M_thrown v)))) LF (0 : Int32) (M_s (M_rn v)))
abbrev rm_M_sticks : Room := { frames := 0, cells := 0, slots := 0, locals := 0 }
set_option maxRecDepth 100000 in
set_option maxHeartbeats 4000000 in
theorem m_M_sticks (l : Launch) (D : va_G) (K : Nat → ClassId) (q : Nat → Nat) (v : T_M) {o_v : T_M} (hf : f_M_sticks v = some o_v) : MV l yX10_sticks cX10_sticks 2 (none) rm_M_sticks D K [.ref (q 0)] (cl_M K q v) (cl_M K q o_v) := by
  refine MV_of (loc0 := [(0, .ref (q 0))]) (by decide +kernel) rfl (Nat.le_of_ble_eq_true rfl) ?_
  intro p e s m args below meth c A cx
  unfold f_M_sticks at hf
  refine r_ws (ws' := [((q 0), ob 9 [.int (M_thrown v), .ref (q 1), .int (M_taped (M_tp v)), .ref (q 2), .ref (q 3), .ref (q 4), .ref (q 5), .ref (q 6), .ref (q 7), .ref (q 8), .ref (q 9), .ref (q 10), .ref (q 11), .ref (q 12), .ref (q 13), .ref (q 14), .int (M_lines (M_rd v)), .int (M_size (M_rd v)), .int (M_at (M_rd v)), .int (M_place (M_rd v)), .int (M_sort (M_rd v)), .int (M_value (M_rd v)), .int (M_fault (M_rd v)), .int (M_faultPlace (M_rd v)), .int (M_lastFault (M_lf v)), .int (M_lastPlace (M_lf v)), .ref (q 15), .ref (q 16), .ref (q 17), .ref (q 18), .int (M_hasImage (M_im v)), .int (M_spanNow (M_rn v)), .ref (q 19), .int (M_placeThen (M_rn v)), .int (M_alonePlace (M_al v)), .int (M_aloneSteps (M_al v)), .int (M_aloneOut (M_al v)), .ref (q 20), .ref (q 21), .ref (q 22), .ref (q 23), .int (M_shotAlarm (M_ex v)), .int (M_drawn (M_ex v))]), ((q 1), aI K 700 (M_tape (M_tp v))), ((q 2), aI K 20 (M_number (M_cd v))), ((q 3), aZ K 5 (M_isTold (M_rd v))), ((q 4), aI K 80 (M_codeSort (M_cd v))), ((q 5), aI K 80 (M_codeA (M_cd v))), ((q 6), aI K 80 (M_codeB (M_cd v))), ((q 7), aI K 80 (M_codeC (M_cd v))), ((q 8), aI K 80 (M_codeName (M_cd v))), ((q 9), aI K 80 (M_codePlace (M_cd v))), ((q 10), aI K 80 (M_codeTo (M_cd v))), ((q 11), aI K 280 (M_labelName (M_cd v))), ((q 12), aI K 280 (M_labelAt (M_cd v))), ((q 13), aI K 64 (M_data (M_cd v))), ((q 14), aZ K 32 (M_hasData (M_rd v))), ((q 15), aI K 314 (M_s (M_rn v))), ((q 16), aI K 314 (M_aside (M_ex v))), ((q 17), aI K 314 (M_further (M_ex v))), ((q 18), aI K 314 (M_image (M_im v))), ((q 19), aI K 3 (M_sizeNow (M_rn v))), ((q 20), aI K 8 (M_aloneRegister (M_al v))), ((q 21), aI K 4 (M_aloneReal (M_al v))), ((q 22), aI K 32 (M_aloneMemory (M_al v))), ((q 23), aI K 999 (M_aloneOutput (M_al v)))]) rfl ?_
  refine r_iconst (pc := 0) cx dX10_sticks_0 ic_0 ?_
  refine r_istore_n (pc := 1) (loc' := [(1, .int (0 : Int32)), (0, .ref (q 0))]) cx dX10_sticks_1 rfl (by decide) rfl ?_
  have hL2 : ∀ (k2_62 : (Nat → Int32) → Option (T_M)), (∀ (f3 : (Nat → Int32)), k2_62 f3 = some o_v → WW p l e rm_M_sticks s m args below meth c D A 2 0 0 (MQ below (QV D K A (cl_M K q o_v)) args s 0 0 A) ([((q 0), ob 9 [.int (M_thrown v), .ref (q 1), .int (M_taped (M_tp v)), .ref (q 2), .ref (q 3), .ref (q 4), .ref (q 5), .ref (q 6), .ref (q 7), .ref (q 8), .ref (q 9), .ref (q 10), .ref (q 11), .ref (q 12), .ref (q 13), .ref (q 14), .int (M_lines (M_rd v)), .int (M_size (M_rd v)), .int (M_at (M_rd v)), .int (M_place (M_rd v)), .int (M_sort (M_rd v)), .int (M_value (M_rd v)), .int (M_fault (M_rd v)), .int (M_faultPlace (M_rd v)), .int (M_lastFault (M_lf v)), .int (M_lastPlace (M_lf v)), .ref (q 15), .ref (q 16), .ref (q 17), .ref (q 18), .int (M_hasImage (M_im v)), .int (M_spanNow (M_rn v)), .ref (q 19), .int (M_placeThen (M_rn v)), .int (M_alonePlace (M_al v)), .int (M_aloneSteps (M_al v)), .int (M_aloneOut (M_al v)), .ref (q 20), .ref (q 21), .ref (q 22), .ref (q 23), .int (M_shotAlarm (M_ex v)), .int (M_drawn (M_ex v))]), ((q 1), aI K 700 (M_tape (M_tp v))), ((q 2), aI K 20 (M_number (M_cd v))), ((q 3), aZ K 5 (M_isTold (M_rd v))), ((q 4), aI K 80 (M_codeSort (M_cd v))), ((q 5), aI K 80 (M_codeA (M_cd v))), ((q 6), aI K 80 (M_codeB (M_cd v))), ((q 7), aI K 80 (M_codeC (M_cd v))), ((q 8), aI K 80 (M_codeName (M_cd v))), ((q 9), aI K 80 (M_codePlace (M_cd v))), ((q 10), aI K 80 (M_codeTo (M_cd v))), ((q 11), aI K 280 (M_labelName (M_cd v))), ((q 12), aI K 280 (M_labelAt (M_cd v))), ((q 13), aI K 64 (M_data (M_cd v))), ((q 14), aZ K 32 (M_hasData (M_rd v))), ((q 15), aI K 314 f3), ((q 16), aI K 314 (M_aside (M_ex v))), ((q 17), aI K 314 (M_further (M_ex v))), ((q 18), aI K 314 (M_image (M_im v))), ((q 19), aI K 3 (M_sizeNow (M_rn v))), ((q 20), aI K 8 (M_aloneRegister (M_al v))), ((q 21), aI K 4 (M_aloneReal (M_al v))), ((q 22), aI K 32 (M_aloneMemory (M_al v))), ((q 23), aI K 999 (M_aloneOutput (M_al v)))]) ([]) ([]) 62) → ∀ (n2 : Nat) (x1 : Int32) (f2 : (Nat → Int32)), f_M_sticks_L2 k2_62 n2 x1 f2 = some o_v → WW p l e rm_M_sticks s m args below meth c D A 2 0 0 (MQ below (QV D K A (cl_M K q o_v)) args s 0 0 A) ([((q 0), ob 9 [.int (M_thrown v), .ref (q 1), .int (M_taped (M_tp v)), .ref (q 2), .ref (q 3), .ref (q 4), .ref (q 5), .ref (q 6), .ref (q 7), .ref (q 8), .ref (q 9), .ref (q 10), .ref (q 11), .ref (q 12), .ref (q 13), .ref (q 14), .int (M_lines (M_rd v)), .int (M_size (M_rd v)), .int (M_at (M_rd v)), .int (M_place (M_rd v)), .int (M_sort (M_rd v)), .int (M_value (M_rd v)), .int (M_fault (M_rd v)), .int (M_faultPlace (M_rd v)), .int (M_lastFault (M_lf v)), .int (M_lastPlace (M_lf v)), .ref (q 15), .ref (q 16), .ref (q 17), .ref (q 18), .int (M_hasImage (M_im v)), .int (M_spanNow (M_rn v)), .ref (q 19), .int (M_placeThen (M_rn v)), .int (M_alonePlace (M_al v)), .int (M_aloneSteps (M_al v)), .int (M_aloneOut (M_al v)), .ref (q 20), .ref (q 21), .ref (q 22), .ref (q 23), .int (M_shotAlarm (M_ex v)), .int (M_drawn (M_ex v))]), ((q 1), aI K 700 (M_tape (M_tp v))), ((q 2), aI K 20 (M_number (M_cd v))), ((q 3), aZ K 5 (M_isTold (M_rd v))), ((q 4), aI K 80 (M_codeSort (M_cd v))), ((q 5), aI K 80 (M_codeA (M_cd v))), ((q 6), aI K 80 (M_codeB (M_cd v))), ((q 7), aI K 80 (M_codeC (M_cd v))), ((q 8), aI K 80 (M_codeName (M_cd v))), ((q 9), aI K 80 (M_codePlace (M_cd v))), ((q 10), aI K 80 (M_codeTo (M_cd v))), ((q 11), aI K 280 (M_labelName (M_cd v))), ((q 12), aI K 280 (M_labelAt (M_cd v))), ((q 13), aI K 64 (M_data (M_cd v))), ((q 14), aZ K 32 (M_hasData (M_rd v))), ((q 15), aI K 314 f2), ((q 16), aI K 314 (M_aside (M_ex v))), ((q 17), aI K 314 (M_further (M_ex v))), ((q 18), aI K 314 (M_image (M_im v))), ((q 19), aI K 3 (M_sizeNow (M_rn v))), ((q 20), aI K 8 (M_aloneRegister (M_al v))), ((q 21), aI K 4 (M_aloneReal (M_al v))), ((q 22), aI K 32 (M_aloneMemory (M_al v))), ((q 23), aI K 999 (M_aloneOutput (M_al v)))]) ([(0, .ref (q 0)), (1, .int x1)]) ([]) 2 := by
    intro k2_62 hk2_62 n2
    induction n2 with
    | zero => intro x1 f2 hf; exact (nomatch (show (none : Option (T_M)) = some _ from hf))
    | succ n2 ih2 =>
      intro x1 f2 hf
      rw [f_M_sticks_L2] at hf
      refine r_iload_n (pc := 2) cx dX10_sticks_2 1 rfl ?_
      refine r_bipush (pc := 3) cx dX10_sticks_3 bp_16 ?_
      refine r_icmp_ge (pc := 5) (tgt := 62) cx dX10_sticks_5 (by decide) (fun h4 => ?_) (fun h4 => ?_)
      · have hf := ifp h4 hf
        refine r_loc (loc' := []) [] rfl ?_
        exact hk2_62 _ hf
      · have hf := ifn h4 hf
        refine r_aload_n (pc := 8) cx dX10_sticks_8 0 rfl ?_
        refine r_get (pc := 9) cx cf_X10 0 26 rfl (by decide) rfl wd_1342 dX10_sticks_9 ?_
        refine r_iconst (pc := 12) cx dX10_sticks_12 ic_4 ?_
        refine r_iload_n (pc := 13) cx dX10_sticks_13 1 rfl ?_
        refine r_iadd (pc := 14) cx dX10_sticks_14 ?_
        refine r_aload_n (pc := 15) cx dX10_sticks_15 0 rfl ?_
        refine r_get (pc := 16) cx cf_X10 0 26 rfl (by decide) rfl wd_1342 dX10_sticks_16 ?_
        refine r_iconst (pc := 19) cx dX10_sticks_19 ic_4 ?_
        refine r_iload_n (pc := 20) cx dX10_sticks_20 1 rfl ?_
        refine r_iadd (pc := 21) cx dX10_sticks_21 ?_
        obtain ⟨h5, hf⟩ := chk_of hf
        refine r_iald (pc := 22) cx 15 rfl h5 dX10_sticks_22 ?_
        refine r_aload_n (pc := 23) cx dX10_sticks_23 0 rfl ?_
        refine r_get (pc := 24) cx cf_X10 0 26 rfl (by decide) rfl wd_1342 dX10_sticks_24 ?_
        refine r_bipush (pc := 27) cx dX10_sticks_27 bp_54 ?_
        refine r_iload_n (pc := 29) cx dX10_sticks_29 1 rfl ?_
        refine r_iadd (pc := 30) cx dX10_sticks_30 ?_
        obtain ⟨h6, hf⟩ := chk_of hf
        refine r_iald (pc := 31) cx 15 rfl h6 dX10_sticks_31 ?_
        refine r_iconst (pc := 32) cx dX10_sticks_32 ic_m1 ?_
        refine r_ixor (pc := 33) cx dX10_sticks_33 ?_
        refine r_iand (pc := 34) cx dX10_sticks_34 ?_
        refine r_aload_n (pc := 35) cx dX10_sticks_35 0 rfl ?_
        refine r_get (pc := 36) cx cf_X10 0 26 rfl (by decide) rfl wd_1342 dX10_sticks_36 ?_
        refine r_bipush (pc := 39) cx dX10_sticks_39 bp_70 ?_
        refine r_iload_n (pc := 41) cx dX10_sticks_41 1 rfl ?_
        refine r_iadd (pc := 42) cx dX10_sticks_42 ?_
        obtain ⟨h7, hf⟩ := chk_of hf
        refine r_iald (pc := 43) cx 15 rfl h7 dX10_sticks_43 ?_
        refine r_aload_n (pc := 44) cx dX10_sticks_44 0 rfl ?_
        refine r_get (pc := 45) cx cf_X10 0 26 rfl (by decide) rfl wd_1342 dX10_sticks_45 ?_
        refine r_bipush (pc := 48) cx dX10_sticks_48 bp_54 ?_
        refine r_iload_n (pc := 50) cx dX10_sticks_50 1 rfl ?_
        refine r_iadd (pc := 51) cx dX10_sticks_51 ?_
        obtain ⟨h8, hf⟩ := chk_of hf
        refine r_iald (pc := 52) cx 15 rfl h8 dX10_sticks_52 ?_
        refine r_iand (pc := 53) cx dX10_sticks_53 ?_
        refine r_ior (pc := 54) cx dX10_sticks_54 ?_
        obtain ⟨x9, ex9, hf⟩ := nm_of hf
        refine r_nm ex9 ?_
        obtain ⟨h10, hf⟩ := chk_of hf
        obtain ⟨f11, ef11, hf⟩ := nm_of hf
        refine r_iast (pc := 55) (ws' := [((q 0), ob 9 [.int (M_thrown v), .ref (q 1), .int (M_taped (M_tp v)), .ref (q 2), .ref (q 3), .ref (q 4), .ref (q 5), .ref (q 6), .ref (q 7), .ref (q 8), .ref (q 9), .ref (q 10), .ref (q 11), .ref (q 12), .ref (q 13), .ref (q 14), .int (M_lines (M_rd v)), .int (M_size (M_rd v)), .int (M_at (M_rd v)), .int (M_place (M_rd v)), .int (M_sort (M_rd v)), .int (M_value (M_rd v)), .int (M_fault (M_rd v)), .int (M_faultPlace (M_rd v)), .int (M_lastFault (M_lf v)), .int (M_lastPlace (M_lf v)), .ref (q 15), .ref (q 16), .ref (q 17), .ref (q 18), .int (M_hasImage (M_im v)), .int (M_spanNow (M_rn v)), .ref (q 19), .int (M_placeThen (M_rn v)), .int (M_alonePlace (M_al v)), .int (M_aloneSteps (M_al v)), .int (M_aloneOut (M_al v)), .ref (q 20), .ref (q 21), .ref (q 22), .ref (q 23), .int (M_shotAlarm (M_ex v)), .int (M_drawn (M_ex v))]), ((q 1), aI K 700 (M_tape (M_tp v))), ((q 2), aI K 20 (M_number (M_cd v))), ((q 3), aZ K 5 (M_isTold (M_rd v))), ((q 4), aI K 80 (M_codeSort (M_cd v))), ((q 5), aI K 80 (M_codeA (M_cd v))), ((q 6), aI K 80 (M_codeB (M_cd v))), ((q 7), aI K 80 (M_codeC (M_cd v))), ((q 8), aI K 80 (M_codeName (M_cd v))), ((q 9), aI K 80 (M_codePlace (M_cd v))), ((q 10), aI K 80 (M_codeTo (M_cd v))), ((q 11), aI K 280 (M_labelName (M_cd v))), ((q 12), aI K 280 (M_labelAt (M_cd v))), ((q 13), aI K 64 (M_data (M_cd v))), ((q 14), aZ K 32 (M_hasData (M_rd v))), ((q 15), aI K 314 f11), ((q 16), aI K 314 (M_aside (M_ex v))), ((q 17), aI K 314 (M_further (M_ex v))), ((q 18), aI K 314 (M_image (M_im v))), ((q 19), aI K 3 (M_sizeNow (M_rn v))), ((q 20), aI K 8 (M_aloneRegister (M_al v))), ((q 21), aI K 4 (M_aloneReal (M_al v))), ((q 22), aI K 32 (M_aloneMemory (M_al v))), ((q 23), aI K 999 (M_aloneOutput (M_al v)))]) cx 15 rfl h10 dX10_sticks_55 ef11 rfl ?_
        obtain ⟨x12, ex12, hf⟩ := nm_of hf
        refine r_iinc (pc := 56) (loc' := [(1, .int x12), (0, .ref (q 0))]) (v := x12) cx dX10_sticks_56 1 rfl ((congrArg (fun z => x1 + z) ic_1).trans ex12.symm) (by decide) rfl ?_
        refine r_goto (pc := 59) (tgt := 2) cx dX10_sticks_59 (by decide) ?_
        refine r_loc (loc' := [(0, .ref (q 0)), (1, .int x12)]) [1, 0] rfl ?_
        exact ih2 _ _ hf
  refine r_loc (loc' := [(0, .ref (q 0)), (1, .int (0 : Int32))]) [1, 0] rfl ?_
  refine hL2 _ (fun f3 hf => ?_) _ _ _ hf
  cases hf
  exact r_vret (pc := 62) cx rfl dX10_sticks_62
theorem yv_X10_sticks : YV yX10_sticks cX10_sticks 2 (none) 0 := ⟨⟨by decide +kernel, by decide +kernel, by decide +kernel⟩, wd_1670, wd_102, wd_1669, wd_67⟩
def f_M_addressOf (v : T_M) (a1 : Int32) (a2 : Int32) : Option (Int32) :=
  (if ix a2 80 then (nm (((4 : Int32) + ((8 : Int32) * a1)) + ((M_codeB (M_cd v)) a2.toNatClampNeg)) fun (x2 : Int32) => (if ix x2 314 then (if ix a2 80 then (some ((((M_s (M_rn v)) x2.toNatClampNeg) + ((M_codeC (M_cd v)) a2.toNatClampNeg)) &&& (31 : Int32))) else none) else none)) else none)
abbrev rm_M_addressOf : Room := { frames := 0, cells := 0, slots := 0, locals := 0 }
set_option maxRecDepth 100000 in
set_option maxHeartbeats 4000000 in
theorem m_M_addressOf (l : Launch) (D : va_G) (K : Nat → ClassId) (q : Nat → Nat) (v : T_M) (a1 : Int32) (a2 : Int32) {r_ : Int32} (hf : f_M_addressOf v a1 a2 = some r_) : MI l yX10_addressOf cX10_addressOf 3 (some .int) rm_M_addressOf D K [.ref (q 0), .int a1, .int a2] (cl_M K q v) r_ (cl_M K q v) := by
  refine MI_of (loc0 := [(0, .ref (q 0)), (1, .int a1), (2, .int a2)]) (by decide +kernel) rfl (Nat.le_of_ble_eq_true rfl) ?_
  intro p e s m args below meth c A cx
  unfold f_M_addressOf at hf
  refine r_ws (ws' := [((q 0), ob 9 [.int (M_thrown v), .ref (q 1), .int (M_taped (M_tp v)), .ref (q 2), .ref (q 3), .ref (q 4), .ref (q 5), .ref (q 6), .ref (q 7), .ref (q 8), .ref (q 9), .ref (q 10), .ref (q 11), .ref (q 12), .ref (q 13), .ref (q 14), .int (M_lines (M_rd v)), .int (M_size (M_rd v)), .int (M_at (M_rd v)), .int (M_place (M_rd v)), .int (M_sort (M_rd v)), .int (M_value (M_rd v)), .int (M_fault (M_rd v)), .int (M_faultPlace (M_rd v)), .int (M_lastFault (M_lf v)), .int (M_lastPlace (M_lf v)), .ref (q 15), .ref (q 16), .ref (q 17), .ref (q 18), .int (M_hasImage (M_im v)), .int (M_spanNow (M_rn v)), .ref (q 19), .int (M_placeThen (M_rn v)), .int (M_alonePlace (M_al v)), .int (M_aloneSteps (M_al v)), .int (M_aloneOut (M_al v)), .ref (q 20), .ref (q 21), .ref (q 22), .ref (q 23), .int (M_shotAlarm (M_ex v)), .int (M_drawn (M_ex v))]), ((q 1), aI K 700 (M_tape (M_tp v))), ((q 2), aI K 20 (M_number (M_cd v))), ((q 3), aZ K 5 (M_isTold (M_rd v))), ((q 4), aI K 80 (M_codeSort (M_cd v))), ((q 5), aI K 80 (M_codeA (M_cd v))), ((q 6), aI K 80 (M_codeB (M_cd v))), ((q 7), aI K 80 (M_codeC (M_cd v))), ((q 8), aI K 80 (M_codeName (M_cd v))), ((q 9), aI K 80 (M_codePlace (M_cd v))), ((q 10), aI K 80 (M_codeTo (M_cd v))), ((q 11), aI K 280 (M_labelName (M_cd v))), ((q 12), aI K 280 (M_labelAt (M_cd v))), ((q 13), aI K 64 (M_data (M_cd v))), ((q 14), aZ K 32 (M_hasData (M_rd v))), ((q 15), aI K 314 (M_s (M_rn v))), ((q 16), aI K 314 (M_aside (M_ex v))), ((q 17), aI K 314 (M_further (M_ex v))), ((q 18), aI K 314 (M_image (M_im v))), ((q 19), aI K 3 (M_sizeNow (M_rn v))), ((q 20), aI K 8 (M_aloneRegister (M_al v))), ((q 21), aI K 4 (M_aloneReal (M_al v))), ((q 22), aI K 32 (M_aloneMemory (M_al v))), ((q 23), aI K 999 (M_aloneOutput (M_al v)))]) rfl ?_
  refine r_aload_n (pc := 0) cx dX10_addressOf_0 0 rfl ?_
  refine r_get (pc := 1) cx cf_X10 0 26 rfl (by decide) rfl wd_1342 dX10_addressOf_1 ?_
  refine r_iconst (pc := 4) cx dX10_addressOf_4 ic_4 ?_
  refine r_bipush (pc := 5) cx dX10_addressOf_5 bp_8 ?_
  refine r_iload_n (pc := 7) cx dX10_addressOf_7 1 rfl ?_
  refine r_imul (pc := 8) cx dX10_addressOf_8 ?_
  refine r_iadd (pc := 9) cx dX10_addressOf_9 ?_
  refine r_aload_n (pc := 10) cx dX10_addressOf_10 0 rfl ?_
  refine r_get (pc := 11) cx cf_X10 0 7 rfl (by decide) rfl wd_1323 dX10_addressOf_11 ?_
  refine r_iload_n (pc := 14) cx dX10_addressOf_14 2 rfl ?_
  obtain ⟨h1, hf⟩ := chk_of hf
  refine r_iald (pc := 15) cx 6 rfl h1 dX10_addressOf_15 ?_
  refine r_iadd (pc := 16) cx dX10_addressOf_16 ?_
  obtain ⟨x2, ex2, hf⟩ := nm_of hf
  refine r_nm ex2 ?_
  obtain ⟨h3, hf⟩ := chk_of hf
  refine r_iald (pc := 17) cx 15 rfl h3 dX10_addressOf_17 ?_
  refine r_aload_n (pc := 18) cx dX10_addressOf_18 0 rfl ?_
  refine r_get (pc := 19) cx cf_X10 0 8 rfl (by decide) rfl wd_1324 dX10_addressOf_19 ?_
  refine r_iload_n (pc := 22) cx dX10_addressOf_22 2 rfl ?_
  obtain ⟨h4, hf⟩ := chk_of hf
  refine r_iald (pc := 23) cx 7 rfl h4 dX10_addressOf_23 ?_
  refine r_iadd (pc := 24) cx dX10_addressOf_24 ?_
  refine r_bipush (pc := 25) cx dX10_addressOf_25 bp_31 ?_
  refine r_iand (pc := 27) cx dX10_addressOf_27 ?_
  cases hf
  exact r_iret (pc := 28) cx rfl rfl dX10_addressOf_28
theorem yv_X10_addressOf : YV yX10_addressOf cX10_addressOf 3 (some .int) 2 := ⟨⟨by decide +kernel, by decide +kernel, by decide +kernel⟩, wd_1614, wd_102, wd_1613, wd_62⟩
def f_M_goesBy (a0 : Int32) (a1 : Int32) (a2 : Int32) (a3 : Int32) (a4 : Int32) : Option (Int32) :=
  (if a0 = (21 : Int32) then (if a1 = (0 : Int32) then (some (1 : Int32)) else (some (0 : Int32))) else (if a0 = (22 : Int32) then (if a2 ≤ a1 then (some (0 : Int32)) else (some (1 : Int32))) else (bd (f_M_isLost a3) fun (r3 : Int32) => (if r3 = (0 : Int32) then (bd (f_M_isLost a4) fun (r6 : Int32) => (if r6 = (0 : Int32) then (bd (f_M_worth a3) fun (r9 : UInt64) => (bd (f_M_worth a4) fun (r11 : UInt64) => (if (0 : Int32) ≤ (Op.cmpValue (FP.dcmp r9 r11) .g) then (some (0 : Int32)) else (some (1 : Int32))))) else (some (0 : Int32)))) else (some (0 : Int32))))))
abbrev rm_M_goesBy : Room := { frames := 2, cells := 0, slots := 0, locals := 54 }
set_option maxRecDepth 100000 in
set_option maxHeartbeats 4000000 in
theorem m_M_goesBy (l : Launch) (D : va_G) (K : Nat → ClassId) (a0 : Int32) (a1 : Int32) (a2 : Int32) (a3 : Int32) (a4 : Int32) {r_ : Int32} (hf : f_M_goesBy a0 a1 a2 a3 a4 = some r_) : MI l yX10_goesBy cX10_goesBy 5 (some .boolean) rm_M_goesBy D K [.int a0, .int a1, .int a2, .int a3, .int a4] ([]) r_ ([]) := by
  refine MI_of (loc0 := [(0, .int a0), (1, .int a1), (2, .int a2), (3, .int a3), (4, .int a4)]) (by decide +kernel) rfl (Nat.le_of_ble_eq_true rfl) ?_
  intro p e s m args below meth c A cx
  unfold f_M_goesBy at hf
  refine r_ws (ws' := []) rfl ?_
  refine r_iload_n (pc := 0) cx dX10_goesBy_0 0 rfl ?_
  refine r_bipush (pc := 1) cx dX10_goesBy_1 bp_21 ?_
  refine r_icmp_ne (pc := 3) (tgt := 16) cx dX10_goesBy_3 (by decide) (fun h1 => ?_) (fun h1 => ?_)
  · have hf := ifn h1 hf
    refine r_iload_n (pc := 16) cx dX10_goesBy_16 0 rfl ?_
    refine r_bipush (pc := 17) cx dX10_goesBy_17 bp_22 ?_
    refine r_icmp_ne (pc := 19) (tgt := 33) cx dX10_goesBy_19 (by decide) (fun h2 => ?_) (fun h2 => ?_)
    · have hf := ifn h2 hf
      refine r_iload_n (pc := 33) cx dX10_goesBy_33 3 rfl ?_
      obtain ⟨r3, hc4, hf⟩ := bd_of hf
      refine r_Si (pc := 34) (ws' := []) cx [.int a3] [] [] (m_M_isLost l D K a3 hc4) ys_X10_isLost wd_1643 ⟨rfl, rfl⟩ (by decide) rfl rfl rfl (by decide) rfl (Nat.le_of_ble_eq_true rfl) dX10_goesBy_34 ?_
      refine r_if_ne (pc := 37) (tgt := 65) cx dX10_goesBy_37 (by decide) (fun h5 => ?_) (fun h5 => ?_)
      · have hf := ifn h5 hf
        refine r_iconst (pc := 65) cx dX10_goesBy_65 ic_0 ?_
        cases hf
        exact r_zret (pc := 66) cx (Or.inl rfl) rfl rfl dX10_goesBy_66
      · have hf := ifp h5 hf
        refine r_iload (pc := 40) cx dX10_goesBy_40 4 rfl ?_
        obtain ⟨r6, hc7, hf⟩ := bd_of hf
        refine r_Si (pc := 42) (ws' := []) cx [.int a4] [] [] (m_M_isLost l D K a4 hc7) ys_X10_isLost wd_1643 ⟨rfl, rfl⟩ (by decide) rfl rfl rfl (by decide) rfl (Nat.le_of_ble_eq_true rfl) dX10_goesBy_42 ?_
        refine r_if_ne (pc := 45) (tgt := 65) cx dX10_goesBy_45 (by decide) (fun h8 => ?_) (fun h8 => ?_)
        · have hf := ifn h8 hf
          refine r_iconst (pc := 65) cx dX10_goesBy_65 ic_0 ?_
          cases hf
          exact r_zret (pc := 66) cx (Or.inl rfl) rfl rfl dX10_goesBy_66
        · have hf := ifp h8 hf
          refine r_iload_n (pc := 48) cx dX10_goesBy_48 3 rfl ?_
          obtain ⟨r9, hc10, hf⟩ := bd_of hf
          refine r_Sd (pc := 49) (ws' := []) cx [.int a3] [] [] (m_M_worth l D K a3 hc10) ys_X10_worth wd_1647 ⟨rfl, rfl⟩ (by decide) rfl rfl rfl (by decide) rfl (Nat.le_of_ble_eq_true rfl) dX10_goesBy_49 ?_
          refine r_iload (pc := 52) cx dX10_goesBy_52 4 rfl ?_
          obtain ⟨r11, hc12, hf⟩ := bd_of hf
          refine r_Sd (pc := 54) (ws' := []) cx [.int a4] [.double r9] [] (m_M_worth l D K a4 hc12) ys_X10_worth wd_1647 ⟨rfl, rfl⟩ (by decide) rfl rfl rfl (by decide) rfl (Nat.le_of_ble_eq_true rfl) dX10_goesBy_54 ?_
          refine r_dcmpg (pc := 57) cx dX10_goesBy_57 ?_
          refine r_if_ge (pc := 58) (tgt := 65) cx dX10_goesBy_58 (by decide) (fun h13 => ?_) (fun h13 => ?_)
          · have hf := ifp h13 hf
            refine r_iconst (pc := 65) cx dX10_goesBy_65 ic_0 ?_
            cases hf
            exact r_zret (pc := 66) cx (Or.inl rfl) rfl rfl dX10_goesBy_66
          · have hf := ifn h13 hf
            refine r_iconst (pc := 61) cx dX10_goesBy_61 ic_1 ?_
            refine r_goto (pc := 62) (tgt := 66) cx dX10_goesBy_62 (by decide) ?_
            cases hf
            exact r_zret (pc := 66) cx (Or.inr rfl) rfl rfl dX10_goesBy_66
    · have hf := ifp h2 hf
      refine r_iload_n (pc := 22) cx dX10_goesBy_22 1 rfl ?_
      refine r_iload_n (pc := 23) cx dX10_goesBy_23 2 rfl ?_
      refine r_icmp_ge (pc := 24) (tgt := 31) cx dX10_goesBy_24 (by decide) (fun h14 => ?_) (fun h14 => ?_)
      · have hf := ifp h14 hf
        refine r_iconst (pc := 31) cx dX10_goesBy_31 ic_0 ?_
        cases hf
        exact r_zret (pc := 32) cx (Or.inl rfl) rfl rfl dX10_goesBy_32
      · have hf := ifn h14 hf
        refine r_iconst (pc := 27) cx dX10_goesBy_27 ic_1 ?_
        refine r_goto (pc := 28) (tgt := 32) cx dX10_goesBy_28 (by decide) ?_
        cases hf
        exact r_zret (pc := 32) cx (Or.inr rfl) rfl rfl dX10_goesBy_32
  · have hf := ifp h1 hf
    refine r_iload_n (pc := 6) cx dX10_goesBy_6 1 rfl ?_
    refine r_if_ne (pc := 7) (tgt := 14) cx dX10_goesBy_7 (by decide) (fun h15 => ?_) (fun h15 => ?_)
    · have hf := ifn h15 hf
      refine r_iconst (pc := 14) cx dX10_goesBy_14 ic_0 ?_
      cases hf
      exact r_zret (pc := 15) cx (Or.inl rfl) rfl rfl dX10_goesBy_15
    · have hf := ifp h15 hf
      refine r_iconst (pc := 10) cx dX10_goesBy_10 ic_1 ?_
      refine r_goto (pc := 11) (tgt := 15) cx dX10_goesBy_11 (by decide) ?_
      cases hf
      exact r_zret (pc := 15) cx (Or.inr rfl) rfl rfl dX10_goesBy_15
theorem ys_X10_goesBy : YS yX10_goesBy cX10_goesBy 5 (some .boolean) 5 := ⟨⟨by decide +kernel, by decide +kernel, by decide +kernel⟩, wd_1662, wd_102, wd_1661⟩
def f_M_branches_L67  (k67_102 : (Nat → Int32) → Option (Int32 × T_M)) : Nat → Int32 → (Nat → Int32) → Option (Int32 × T_M)
  | 0, _, _ => none
  | n67 + 1, x5, f6 =>
    (if (8 : Int32) ≤ x5 then (k67_102 f6) else (if ix ((104 : Int32) + x5) 314 then (nm (f6 (((104 : Int32) + x5)).toNatClampNeg) fun (x10 : Int32) => (if ix (((104 : Int32) + x5) - (1 : Int32)) 314 then (nm (upd f6 ((((104 : Int32) + x5) - (1 : Int32))).toNatClampNeg x10) fun (f12 : Nat → Int32) => (nm (x5 + (1 : Int32)) fun (x13 : Int32) => (f_M_branches_L67 k67_102 n67 x13 f12))) else none)) else none))
def f_M_branches (v : T_M) (a1 : Int32) (a2 : Int32) (a3 : Int32) : Option (Int32 × T_M) :=
  (nm (fun (x1 : Int32) => ((if a1 = (0 : Int32) then (nm (fun (y19 : Int32) => ((if ix ((104 : Int32) + ((M_s (M_rn v)) (103 : Int32).toNatClampNeg)) 314 then (nm (upd (M_s (M_rn v)) (((104 : Int32) + ((M_s (M_rn v)) (103 : Int32).toNatClampNeg))).toNatClampNeg y19) fun (f22 : Nat → Int32) => (nm ((f22 (103 : Int32).toNatClampNeg) + (1 : Int32)) fun (x23 : Int32) => (nm (upd f22 (103 : Int32).toNatClampNeg x23) fun (f24 : Nat → Int32) => (some ((0 : Int32), ((M_tp v), (M_rd v), (M_lf v), (M_cd v), (f24, (M_spanNow (M_rn v)), (M_sizeNow (M_rn v)), x1), (M_ex v), (M_im v), (M_al v), (M_thrown v))))))) else none) : Option (Int32 × T_M))) fun J20 => (if a3 = (0 : Int32) then (J20 (0 : Int32)) else (J20 (1 : Int32)))) else (nm ((M_s (M_rn v)) (104 : Int32).toNatClampNeg) fun (x4 : Int32) => (f_M_branches_L67 (fun (f7 : (Nat → Int32)) => (nm ((f7 (103 : Int32).toNatClampNeg) - (1 : Int32)) fun (x14 : Int32) => (nm (upd f7 (103 : Int32).toNatClampNeg x14) fun (f15 : Nat → Int32) => (if a3 = (0 : Int32) then (if x4 = (0 : Int32) then (some ((0 : Int32), ((M_tp v), (M_rd v), (M_lf v), (M_cd v), (f15, (M_spanNow (M_rn v)), (M_sizeNow (M_rn v)), x1), (M_ex v), (M_im v), (M_al v), (M_thrown v)))) else (some ((2 : Int32), ((M_tp v), (M_rd v), (M_lf v), (M_cd v), (f15, (M_spanNow (M_rn v)), (M_sizeNow (M_rn v)), x1), (M_ex v), (M_im v), (M_al v), (M_thrown v))))) else (if x4 = (1 : Int32) then (some ((0 : Int32), ((M_tp v), (M_rd v), (M_lf v), (M_cd v), (f15, (M_spanNow (M_rn v)), (M_sizeNow (M_rn v)), x1), (M_ex v), (M_im v), (M_al v), (M_thrown v)))) else (some ((2 : Int32), ((M_tp v), (M_rd v), (M_lf v), (M_cd v), (f15, (M_spanNow (M_rn v)), (M_sizeNow (M_rn v)), x1), (M_ex v), (M_im v), (M_al v), (M_thrown v))))))))) LF (1 : Int32) (M_s (M_rn v))))) : Option (Int32 × T_M))) fun J2 => (if a3 = (0 : Int32) then (J2 (M_placeThen (M_rn v))) else (if ix a2 80 then (nm ((M_codeTo (M_cd v)) a2.toNatClampNeg) fun (x28 : Int32) => (J2 x28)) else none)))
abbrev rm_M_branches : Room := { frames := 0, cells := 0, slots := 0, locals := 0 }
set_option maxRecDepth 100000 in
set_option maxHeartbeats 4000000 in
theorem m_M_branches (l : Launch) (D : va_G) (K : Nat → ClassId) (q : Nat → Nat) (v : T_M) (a1 : Int32) (a2 : Int32) (a3 : Int32) {r_ : Int32} {o_v : T_M} (hf : f_M_branches v a1 a2 a3 = some (r_, o_v)) : MI l yX10_branches cX10_branches 6 (some .int) rm_M_branches D K [.ref (q 0), .int a1, .int a2, .int a3] (cl_M K q v) r_ (cl_M K q o_v) := by
  refine MI_of (loc0 := [(0, .ref (q 0)), (1, .int a1), (2, .int a2), (3, .int a3)]) (by decide +kernel) rfl (Nat.le_of_ble_eq_true rfl) ?_
  intro p e s m args below meth c A cx
  unfold f_M_branches at hf
  refine r_ws (ws' := [((q 0), ob 9 [.int (M_thrown v), .ref (q 1), .int (M_taped (M_tp v)), .ref (q 2), .ref (q 3), .ref (q 4), .ref (q 5), .ref (q 6), .ref (q 7), .ref (q 8), .ref (q 9), .ref (q 10), .ref (q 11), .ref (q 12), .ref (q 13), .ref (q 14), .int (M_lines (M_rd v)), .int (M_size (M_rd v)), .int (M_at (M_rd v)), .int (M_place (M_rd v)), .int (M_sort (M_rd v)), .int (M_value (M_rd v)), .int (M_fault (M_rd v)), .int (M_faultPlace (M_rd v)), .int (M_lastFault (M_lf v)), .int (M_lastPlace (M_lf v)), .ref (q 15), .ref (q 16), .ref (q 17), .ref (q 18), .int (M_hasImage (M_im v)), .int (M_spanNow (M_rn v)), .ref (q 19), .int (M_placeThen (M_rn v)), .int (M_alonePlace (M_al v)), .int (M_aloneSteps (M_al v)), .int (M_aloneOut (M_al v)), .ref (q 20), .ref (q 21), .ref (q 22), .ref (q 23), .int (M_shotAlarm (M_ex v)), .int (M_drawn (M_ex v))]), ((q 1), aI K 700 (M_tape (M_tp v))), ((q 2), aI K 20 (M_number (M_cd v))), ((q 3), aZ K 5 (M_isTold (M_rd v))), ((q 4), aI K 80 (M_codeSort (M_cd v))), ((q 5), aI K 80 (M_codeA (M_cd v))), ((q 6), aI K 80 (M_codeB (M_cd v))), ((q 7), aI K 80 (M_codeC (M_cd v))), ((q 8), aI K 80 (M_codeName (M_cd v))), ((q 9), aI K 80 (M_codePlace (M_cd v))), ((q 10), aI K 80 (M_codeTo (M_cd v))), ((q 11), aI K 280 (M_labelName (M_cd v))), ((q 12), aI K 280 (M_labelAt (M_cd v))), ((q 13), aI K 64 (M_data (M_cd v))), ((q 14), aZ K 32 (M_hasData (M_rd v))), ((q 15), aI K 314 (M_s (M_rn v))), ((q 16), aI K 314 (M_aside (M_ex v))), ((q 17), aI K 314 (M_further (M_ex v))), ((q 18), aI K 314 (M_image (M_im v))), ((q 19), aI K 3 (M_sizeNow (M_rn v))), ((q 20), aI K 8 (M_aloneRegister (M_al v))), ((q 21), aI K 4 (M_aloneReal (M_al v))), ((q 22), aI K 32 (M_aloneMemory (M_al v))), ((q 23), aI K 999 (M_aloneOutput (M_al v)))]) rfl ?_
  refine r_iload_n (pc := 0) cx dX10_branches_0 3 rfl ?_
  obtain ⟨J2, eJ2, hf⟩ := nm_of hf
  have hJ2 : ∀ (x1 : Int32), J2 x1 = some (r_, o_v) → WW p l e rm_M_branches s m args below meth c D A 6 0 0 (MQ below (QI D K A r_ (cl_M K q o_v)) args s 0 0 A) ([((q 0), ob 9 [.int (M_thrown v), .ref (q 1), .int (M_taped (M_tp v)), .ref (q 2), .ref (q 3), .ref (q 4), .ref (q 5), .ref (q 6), .ref (q 7), .ref (q 8), .ref (q 9), .ref (q 10), .ref (q 11), .ref (q 12), .ref (q 13), .ref (q 14), .int (M_lines (M_rd v)), .int (M_size (M_rd v)), .int (M_at (M_rd v)), .int (M_place (M_rd v)), .int (M_sort (M_rd v)), .int (M_value (M_rd v)), .int (M_fault (M_rd v)), .int (M_faultPlace (M_rd v)), .int (M_lastFault (M_lf v)), .int (M_lastPlace (M_lf v)), .ref (q 15), .ref (q 16), .ref (q 17), .ref (q 18), .int (M_hasImage (M_im v)), .int (M_spanNow (M_rn v)), .ref (q 19), .int x1, .int (M_alonePlace (M_al v)), .int (M_aloneSteps (M_al v)), .int (M_aloneOut (M_al v)), .ref (q 20), .ref (q 21), .ref (q 22), .ref (q 23), .int (M_shotAlarm (M_ex v)), .int (M_drawn (M_ex v))]), ((q 1), aI K 700 (M_tape (M_tp v))), ((q 2), aI K 20 (M_number (M_cd v))), ((q 3), aZ K 5 (M_isTold (M_rd v))), ((q 4), aI K 80 (M_codeSort (M_cd v))), ((q 5), aI K 80 (M_codeA (M_cd v))), ((q 6), aI K 80 (M_codeB (M_cd v))), ((q 7), aI K 80 (M_codeC (M_cd v))), ((q 8), aI K 80 (M_codeName (M_cd v))), ((q 9), aI K 80 (M_codePlace (M_cd v))), ((q 10), aI K 80 (M_codeTo (M_cd v))), ((q 11), aI K 280 (M_labelName (M_cd v))), ((q 12), aI K 280 (M_labelAt (M_cd v))), ((q 13), aI K 64 (M_data (M_cd v))), ((q 14), aZ K 32 (M_hasData (M_rd v))), ((q 15), aI K 314 (M_s (M_rn v))), ((q 16), aI K 314 (M_aside (M_ex v))), ((q 17), aI K 314 (M_further (M_ex v))), ((q 18), aI K 314 (M_image (M_im v))), ((q 19), aI K 3 (M_sizeNow (M_rn v))), ((q 20), aI K 8 (M_aloneRegister (M_al v))), ((q 21), aI K 4 (M_aloneReal (M_al v))), ((q 22), aI K 32 (M_aloneMemory (M_al v))), ((q 23), aI K 999 (M_aloneOutput (M_al v)))]) ([(0, .ref (q 0)), (1, .int a1), (3, .int a3)]) ([]) 14 := by
    intro x1 hf
    rw [eJ2] at hf
    refine r_iload_n (pc := 14) cx dX10_branches_14 1 rfl ?_
    refine r_if_ne (pc := 15) (tgt := 55) cx dX10_branches_15 (by decide) (fun h3 => ?_) (fun h3 => ?_)
    · have hf := ifn h3 hf
      refine r_aload_n (pc := 55) cx dX10_branches_55 0 rfl ?_
      refine r_get (pc := 56) cx cf_X10 0 26 rfl (by decide) rfl wd_1342 dX10_branches_56 ?_
      refine r_bipush (pc := 59) cx dX10_branches_59 bp_104 ?_
      refine r_iald (pc := 61) cx 15 rfl (by decide) dX10_branches_61 ?_
      obtain ⟨x4, ex4, hf⟩ := nm_of hf
      refine r_nm ex4 ?_
      refine r_istore (pc := 62) (loc' := [(4, .int x4), (0, .ref (q 0)), (1, .int a1), (3, .int a3)]) cx dX10_branches_62 (by decide) rfl ?_
      refine r_iconst (pc := 64) cx dX10_branches_64 ic_1 ?_
      refine r_istore (pc := 65) (loc' := [(5, .int (1 : Int32)), (4, .int x4), (0, .ref (q 0)), (1, .int a1), (3, .int a3)]) cx dX10_branches_65 (by decide) rfl ?_
      have hL67 : ∀ (k67_102 : (Nat → Int32) → Option (Int32 × T_M)), (∀ (f7 : (Nat → Int32)), k67_102 f7 = some (r_, o_v) → WW p l e rm_M_branches s m args below meth c D A 6 0 0 (MQ below (QI D K A r_ (cl_M K q o_v)) args s 0 0 A) ([((q 0), ob 9 [.int (M_thrown v), .ref (q 1), .int (M_taped (M_tp v)), .ref (q 2), .ref (q 3), .ref (q 4), .ref (q 5), .ref (q 6), .ref (q 7), .ref (q 8), .ref (q 9), .ref (q 10), .ref (q 11), .ref (q 12), .ref (q 13), .ref (q 14), .int (M_lines (M_rd v)), .int (M_size (M_rd v)), .int (M_at (M_rd v)), .int (M_place (M_rd v)), .int (M_sort (M_rd v)), .int (M_value (M_rd v)), .int (M_fault (M_rd v)), .int (M_faultPlace (M_rd v)), .int (M_lastFault (M_lf v)), .int (M_lastPlace (M_lf v)), .ref (q 15), .ref (q 16), .ref (q 17), .ref (q 18), .int (M_hasImage (M_im v)), .int (M_spanNow (M_rn v)), .ref (q 19), .int x1, .int (M_alonePlace (M_al v)), .int (M_aloneSteps (M_al v)), .int (M_aloneOut (M_al v)), .ref (q 20), .ref (q 21), .ref (q 22), .ref (q 23), .int (M_shotAlarm (M_ex v)), .int (M_drawn (M_ex v))]), ((q 1), aI K 700 (M_tape (M_tp v))), ((q 2), aI K 20 (M_number (M_cd v))), ((q 3), aZ K 5 (M_isTold (M_rd v))), ((q 4), aI K 80 (M_codeSort (M_cd v))), ((q 5), aI K 80 (M_codeA (M_cd v))), ((q 6), aI K 80 (M_codeB (M_cd v))), ((q 7), aI K 80 (M_codeC (M_cd v))), ((q 8), aI K 80 (M_codeName (M_cd v))), ((q 9), aI K 80 (M_codePlace (M_cd v))), ((q 10), aI K 80 (M_codeTo (M_cd v))), ((q 11), aI K 280 (M_labelName (M_cd v))), ((q 12), aI K 280 (M_labelAt (M_cd v))), ((q 13), aI K 64 (M_data (M_cd v))), ((q 14), aZ K 32 (M_hasData (M_rd v))), ((q 15), aI K 314 f7), ((q 16), aI K 314 (M_aside (M_ex v))), ((q 17), aI K 314 (M_further (M_ex v))), ((q 18), aI K 314 (M_image (M_im v))), ((q 19), aI K 3 (M_sizeNow (M_rn v))), ((q 20), aI K 8 (M_aloneRegister (M_al v))), ((q 21), aI K 4 (M_aloneReal (M_al v))), ((q 22), aI K 32 (M_aloneMemory (M_al v))), ((q 23), aI K 999 (M_aloneOutput (M_al v)))]) ([(0, .ref (q 0)), (3, .int a3), (4, .int x4)]) ([]) 102) → ∀ (n67 : Nat) (x5 : Int32) (f6 : (Nat → Int32)), f_M_branches_L67 k67_102 n67 x5 f6 = some (r_, o_v) → WW p l e rm_M_branches s m args below meth c D A 6 0 0 (MQ below (QI D K A r_ (cl_M K q o_v)) args s 0 0 A) ([((q 0), ob 9 [.int (M_thrown v), .ref (q 1), .int (M_taped (M_tp v)), .ref (q 2), .ref (q 3), .ref (q 4), .ref (q 5), .ref (q 6), .ref (q 7), .ref (q 8), .ref (q 9), .ref (q 10), .ref (q 11), .ref (q 12), .ref (q 13), .ref (q 14), .int (M_lines (M_rd v)), .int (M_size (M_rd v)), .int (M_at (M_rd v)), .int (M_place (M_rd v)), .int (M_sort (M_rd v)), .int (M_value (M_rd v)), .int (M_fault (M_rd v)), .int (M_faultPlace (M_rd v)), .int (M_lastFault (M_lf v)), .int (M_lastPlace (M_lf v)), .ref (q 15), .ref (q 16), .ref (q 17), .ref (q 18), .int (M_hasImage (M_im v)), .int (M_spanNow (M_rn v)), .ref (q 19), .int x1, .int (M_alonePlace (M_al v)), .int (M_aloneSteps (M_al v)), .int (M_aloneOut (M_al v)), .ref (q 20), .ref (q 21), .ref (q 22), .ref (q 23), .int (M_shotAlarm (M_ex v)), .int (M_drawn (M_ex v))]), ((q 1), aI K 700 (M_tape (M_tp v))), ((q 2), aI K 20 (M_number (M_cd v))), ((q 3), aZ K 5 (M_isTold (M_rd v))), ((q 4), aI K 80 (M_codeSort (M_cd v))), ((q 5), aI K 80 (M_codeA (M_cd v))), ((q 6), aI K 80 (M_codeB (M_cd v))), ((q 7), aI K 80 (M_codeC (M_cd v))), ((q 8), aI K 80 (M_codeName (M_cd v))), ((q 9), aI K 80 (M_codePlace (M_cd v))), ((q 10), aI K 80 (M_codeTo (M_cd v))), ((q 11), aI K 280 (M_labelName (M_cd v))), ((q 12), aI K 280 (M_labelAt (M_cd v))), ((q 13), aI K 64 (M_data (M_cd v))), ((q 14), aZ K 32 (M_hasData (M_rd v))), ((q 15), aI K 314 f6), ((q 16), aI K 314 (M_aside (M_ex v))), ((q 17), aI K 314 (M_further (M_ex v))), ((q 18), aI K 314 (M_image (M_im v))), ((q 19), aI K 3 (M_sizeNow (M_rn v))), ((q 20), aI K 8 (M_aloneRegister (M_al v))), ((q 21), aI K 4 (M_aloneReal (M_al v))), ((q 22), aI K 32 (M_aloneMemory (M_al v))), ((q 23), aI K 999 (M_aloneOutput (M_al v)))]) ([(0, .ref (q 0)), (3, .int a3), (4, .int x4), (5, .int x5)]) ([]) 67 := by
        intro k67_102 hk67_102 n67
        induction n67 with
        | zero => intro x5 f6 hf; exact (nomatch (show (none : Option (Int32 × T_M)) = some _ from hf))
        | succ n67 ih67 =>
          intro x5 f6 hf
          rw [f_M_branches_L67] at hf
          refine r_iload (pc := 67) cx dX10_branches_67 3 rfl ?_
          refine r_bipush (pc := 69) cx dX10_branches_69 bp_8 ?_
          refine r_icmp_ge (pc := 71) (tgt := 102) cx dX10_branches_71 (by decide) (fun h8 => ?_) (fun h8 => ?_)
          · have hf := ifp h8 hf
            refine r_loc (loc' := [(0, .ref (q 0)), (3, .int a3), (4, .int x4)]) [0, 1, 2] rfl ?_
            exact hk67_102 _ hf
          · have hf := ifn h8 hf
            refine r_aload_n (pc := 74) cx dX10_branches_74 0 rfl ?_
            refine r_get (pc := 75) cx cf_X10 0 26 rfl (by decide) rfl wd_1342 dX10_branches_75 ?_
            refine r_bipush (pc := 78) cx dX10_branches_78 bp_104 ?_
            refine r_iload (pc := 80) cx dX10_branches_80 3 rfl ?_
            refine r_iadd (pc := 82) cx dX10_branches_82 ?_
            refine r_iconst (pc := 83) cx dX10_branches_83 ic_1 ?_
            refine r_isub (pc := 84) cx dX10_branches_84 ?_
            refine r_aload_n (pc := 85) cx dX10_branches_85 0 rfl ?_
            refine r_get (pc := 86) cx cf_X10 0 26 rfl (by decide) rfl wd_1342 dX10_branches_86 ?_
            refine r_bipush (pc := 89) cx dX10_branches_89 bp_104 ?_
            refine r_iload (pc := 91) cx dX10_branches_91 3 rfl ?_
            refine r_iadd (pc := 93) cx dX10_branches_93 ?_
            obtain ⟨h9, hf⟩ := chk_of hf
            refine r_iald (pc := 94) cx 15 rfl h9 dX10_branches_94 ?_
            obtain ⟨x10, ex10, hf⟩ := nm_of hf
            refine r_nm ex10 ?_
            obtain ⟨h11, hf⟩ := chk_of hf
            obtain ⟨f12, ef12, hf⟩ := nm_of hf
            refine r_iast (pc := 95) (ws' := [((q 0), ob 9 [.int (M_thrown v), .ref (q 1), .int (M_taped (M_tp v)), .ref (q 2), .ref (q 3), .ref (q 4), .ref (q 5), .ref (q 6), .ref (q 7), .ref (q 8), .ref (q 9), .ref (q 10), .ref (q 11), .ref (q 12), .ref (q 13), .ref (q 14), .int (M_lines (M_rd v)), .int (M_size (M_rd v)), .int (M_at (M_rd v)), .int (M_place (M_rd v)), .int (M_sort (M_rd v)), .int (M_value (M_rd v)), .int (M_fault (M_rd v)), .int (M_faultPlace (M_rd v)), .int (M_lastFault (M_lf v)), .int (M_lastPlace (M_lf v)), .ref (q 15), .ref (q 16), .ref (q 17), .ref (q 18), .int (M_hasImage (M_im v)), .int (M_spanNow (M_rn v)), .ref (q 19), .int x1, .int (M_alonePlace (M_al v)), .int (M_aloneSteps (M_al v)), .int (M_aloneOut (M_al v)), .ref (q 20), .ref (q 21), .ref (q 22), .ref (q 23), .int (M_shotAlarm (M_ex v)), .int (M_drawn (M_ex v))]), ((q 1), aI K 700 (M_tape (M_tp v))), ((q 2), aI K 20 (M_number (M_cd v))), ((q 3), aZ K 5 (M_isTold (M_rd v))), ((q 4), aI K 80 (M_codeSort (M_cd v))), ((q 5), aI K 80 (M_codeA (M_cd v))), ((q 6), aI K 80 (M_codeB (M_cd v))), ((q 7), aI K 80 (M_codeC (M_cd v))), ((q 8), aI K 80 (M_codeName (M_cd v))), ((q 9), aI K 80 (M_codePlace (M_cd v))), ((q 10), aI K 80 (M_codeTo (M_cd v))), ((q 11), aI K 280 (M_labelName (M_cd v))), ((q 12), aI K 280 (M_labelAt (M_cd v))), ((q 13), aI K 64 (M_data (M_cd v))), ((q 14), aZ K 32 (M_hasData (M_rd v))), ((q 15), aI K 314 f12), ((q 16), aI K 314 (M_aside (M_ex v))), ((q 17), aI K 314 (M_further (M_ex v))), ((q 18), aI K 314 (M_image (M_im v))), ((q 19), aI K 3 (M_sizeNow (M_rn v))), ((q 20), aI K 8 (M_aloneRegister (M_al v))), ((q 21), aI K 4 (M_aloneReal (M_al v))), ((q 22), aI K 32 (M_aloneMemory (M_al v))), ((q 23), aI K 999 (M_aloneOutput (M_al v)))]) cx 15 rfl h11 dX10_branches_95 ef12 rfl ?_
            obtain ⟨x13, ex13, hf⟩ := nm_of hf
            refine r_iinc (pc := 96) (loc' := [(5, .int x13), (0, .ref (q 0)), (3, .int a3), (4, .int x4)]) (v := x13) cx dX10_branches_96 3 rfl ((congrArg (fun z => x5 + z) ic_1).trans ex13.symm) (by decide) rfl ?_
            refine r_goto (pc := 99) (tgt := 67) cx dX10_branches_99 (by decide) ?_
            refine r_loc (loc' := [(0, .ref (q 0)), (3, .int a3), (4, .int x4), (5, .int x13)]) [1, 2, 3, 0] rfl ?_
            exact ih67 _ _ hf
      refine r_loc (loc' := [(0, .ref (q 0)), (3, .int a3), (4, .int x4), (5, .int (1 : Int32))]) [2, 4, 1, 0] rfl ?_
      refine hL67 _ (fun f7 hf => ?_) _ _ _ hf
      refine r_aload_n (pc := 102) cx dX10_branches_102 0 rfl ?_
      refine r_get (pc := 103) cx cf_X10 0 26 rfl (by decide) rfl wd_1342 dX10_branches_103 ?_
      refine r_bipush (pc := 106) cx dX10_branches_106 bp_103 ?_
      refine r_dup2 (pc := 108) cx dX10_branches_108 rfl rfl ?_
      refine r_iald (pc := 109) cx 15 rfl (by decide) dX10_branches_109 ?_
      refine r_iconst (pc := 110) cx dX10_branches_110 ic_1 ?_
      refine r_isub (pc := 111) cx dX10_branches_111 ?_
      obtain ⟨x14, ex14, hf⟩ := nm_of hf
      refine r_nm ex14 ?_
      obtain ⟨f15, ef15, hf⟩ := nm_of hf
      refine r_iast (pc := 112) (ws' := [((q 0), ob 9 [.int (M_thrown v), .ref (q 1), .int (M_taped (M_tp v)), .ref (q 2), .ref (q 3), .ref (q 4), .ref (q 5), .ref (q 6), .ref (q 7), .ref (q 8), .ref (q 9), .ref (q 10), .ref (q 11), .ref (q 12), .ref (q 13), .ref (q 14), .int (M_lines (M_rd v)), .int (M_size (M_rd v)), .int (M_at (M_rd v)), .int (M_place (M_rd v)), .int (M_sort (M_rd v)), .int (M_value (M_rd v)), .int (M_fault (M_rd v)), .int (M_faultPlace (M_rd v)), .int (M_lastFault (M_lf v)), .int (M_lastPlace (M_lf v)), .ref (q 15), .ref (q 16), .ref (q 17), .ref (q 18), .int (M_hasImage (M_im v)), .int (M_spanNow (M_rn v)), .ref (q 19), .int x1, .int (M_alonePlace (M_al v)), .int (M_aloneSteps (M_al v)), .int (M_aloneOut (M_al v)), .ref (q 20), .ref (q 21), .ref (q 22), .ref (q 23), .int (M_shotAlarm (M_ex v)), .int (M_drawn (M_ex v))]), ((q 1), aI K 700 (M_tape (M_tp v))), ((q 2), aI K 20 (M_number (M_cd v))), ((q 3), aZ K 5 (M_isTold (M_rd v))), ((q 4), aI K 80 (M_codeSort (M_cd v))), ((q 5), aI K 80 (M_codeA (M_cd v))), ((q 6), aI K 80 (M_codeB (M_cd v))), ((q 7), aI K 80 (M_codeC (M_cd v))), ((q 8), aI K 80 (M_codeName (M_cd v))), ((q 9), aI K 80 (M_codePlace (M_cd v))), ((q 10), aI K 80 (M_codeTo (M_cd v))), ((q 11), aI K 280 (M_labelName (M_cd v))), ((q 12), aI K 280 (M_labelAt (M_cd v))), ((q 13), aI K 64 (M_data (M_cd v))), ((q 14), aZ K 32 (M_hasData (M_rd v))), ((q 15), aI K 314 f15), ((q 16), aI K 314 (M_aside (M_ex v))), ((q 17), aI K 314 (M_further (M_ex v))), ((q 18), aI K 314 (M_image (M_im v))), ((q 19), aI K 3 (M_sizeNow (M_rn v))), ((q 20), aI K 8 (M_aloneRegister (M_al v))), ((q 21), aI K 4 (M_aloneReal (M_al v))), ((q 22), aI K 32 (M_aloneMemory (M_al v))), ((q 23), aI K 999 (M_aloneOutput (M_al v)))]) cx 15 rfl (by decide) dX10_branches_112 ef15 rfl ?_
      refine r_iload (pc := 113) cx dX10_branches_113 2 rfl ?_
      refine r_iload_n (pc := 115) cx dX10_branches_115 1 rfl ?_
      refine r_if_eq (pc := 116) (tgt := 123) cx dX10_branches_116 (by decide) (fun h16 => ?_) (fun h16 => ?_)
      · have hf := ifp h16 hf
        refine r_iconst (pc := 123) cx dX10_branches_123 ic_0 ?_
        refine r_icmp_ne (pc := 124) (tgt := 131) cx dX10_branches_124 (by decide) (fun h17 => ?_) (fun h17 => ?_)
        · have hf := ifn h17 hf
          refine r_iconst (pc := 131) cx dX10_branches_131 ic_2 ?_
          cases hf
          exact r_iret (pc := 132) cx rfl rfl dX10_branches_132
        · have hf := ifp h17 hf
          refine r_iconst (pc := 127) cx dX10_branches_127 ic_0 ?_
          refine r_goto (pc := 128) (tgt := 132) cx dX10_branches_128 (by decide) ?_
          cases hf
          exact r_iret (pc := 132) cx rfl rfl dX10_branches_132
      · have hf := ifn h16 hf
        refine r_iconst (pc := 119) cx dX10_branches_119 ic_1 ?_
        refine r_goto (pc := 120) (tgt := 124) cx dX10_branches_120 (by decide) ?_
        refine r_icmp_ne (pc := 124) (tgt := 131) cx dX10_branches_124 (by decide) (fun h18 => ?_) (fun h18 => ?_)
        · have hf := ifn h18 hf
          refine r_iconst (pc := 131) cx dX10_branches_131 ic_2 ?_
          cases hf
          exact r_iret (pc := 132) cx rfl rfl dX10_branches_132
        · have hf := ifp h18 hf
          refine r_iconst (pc := 127) cx dX10_branches_127 ic_0 ?_
          refine r_goto (pc := 128) (tgt := 132) cx dX10_branches_128 (by decide) ?_
          cases hf
          exact r_iret (pc := 132) cx rfl rfl dX10_branches_132
    · have hf := ifp h3 hf
      refine r_aload_n (pc := 18) cx dX10_branches_18 0 rfl ?_
      refine r_get (pc := 19) cx cf_X10 0 26 rfl (by decide) rfl wd_1342 dX10_branches_19 ?_
      refine r_bipush (pc := 22) cx dX10_branches_22 bp_104 ?_
      refine r_aload_n (pc := 24) cx dX10_branches_24 0 rfl ?_
      refine r_get (pc := 25) cx cf_X10 0 26 rfl (by decide) rfl wd_1342 dX10_branches_25 ?_
      refine r_bipush (pc := 28) cx dX10_branches_28 bp_103 ?_
      refine r_iald (pc := 30) cx 15 rfl (by decide) dX10_branches_30 ?_
      refine r_iadd (pc := 31) cx dX10_branches_31 ?_
      refine r_iload_n (pc := 32) cx dX10_branches_32 2 rfl ?_
      obtain ⟨J20, eJ20, hf⟩ := nm_of hf
      have hJ20 : ∀ (y19 : Int32), J20 y19 = some (r_, o_v) → WW p l e rm_M_branches s m args below meth c D A 6 0 0 (MQ below (QI D K A r_ (cl_M K q o_v)) args s 0 0 A) ([((q 0), ob 9 [.int (M_thrown v), .ref (q 1), .int (M_taped (M_tp v)), .ref (q 2), .ref (q 3), .ref (q 4), .ref (q 5), .ref (q 6), .ref (q 7), .ref (q 8), .ref (q 9), .ref (q 10), .ref (q 11), .ref (q 12), .ref (q 13), .ref (q 14), .int (M_lines (M_rd v)), .int (M_size (M_rd v)), .int (M_at (M_rd v)), .int (M_place (M_rd v)), .int (M_sort (M_rd v)), .int (M_value (M_rd v)), .int (M_fault (M_rd v)), .int (M_faultPlace (M_rd v)), .int (M_lastFault (M_lf v)), .int (M_lastPlace (M_lf v)), .ref (q 15), .ref (q 16), .ref (q 17), .ref (q 18), .int (M_hasImage (M_im v)), .int (M_spanNow (M_rn v)), .ref (q 19), .int x1, .int (M_alonePlace (M_al v)), .int (M_aloneSteps (M_al v)), .int (M_aloneOut (M_al v)), .ref (q 20), .ref (q 21), .ref (q 22), .ref (q 23), .int (M_shotAlarm (M_ex v)), .int (M_drawn (M_ex v))]), ((q 1), aI K 700 (M_tape (M_tp v))), ((q 2), aI K 20 (M_number (M_cd v))), ((q 3), aZ K 5 (M_isTold (M_rd v))), ((q 4), aI K 80 (M_codeSort (M_cd v))), ((q 5), aI K 80 (M_codeA (M_cd v))), ((q 6), aI K 80 (M_codeB (M_cd v))), ((q 7), aI K 80 (M_codeC (M_cd v))), ((q 8), aI K 80 (M_codeName (M_cd v))), ((q 9), aI K 80 (M_codePlace (M_cd v))), ((q 10), aI K 80 (M_codeTo (M_cd v))), ((q 11), aI K 280 (M_labelName (M_cd v))), ((q 12), aI K 280 (M_labelAt (M_cd v))), ((q 13), aI K 64 (M_data (M_cd v))), ((q 14), aZ K 32 (M_hasData (M_rd v))), ((q 15), aI K 314 (M_s (M_rn v))), ((q 16), aI K 314 (M_aside (M_ex v))), ((q 17), aI K 314 (M_further (M_ex v))), ((q 18), aI K 314 (M_image (M_im v))), ((q 19), aI K 3 (M_sizeNow (M_rn v))), ((q 20), aI K 8 (M_aloneRegister (M_al v))), ((q 21), aI K 4 (M_aloneReal (M_al v))), ((q 22), aI K 32 (M_aloneMemory (M_al v))), ((q 23), aI K 999 (M_aloneOutput (M_al v)))]) ([(0, .ref (q 0))]) ([.int y19, .int ((104 : Int32) + ((M_s (M_rn v)) (103 : Int32).toNatClampNeg)), .ref (q 15)]) 41 := by
        intro y19 hf
        rw [eJ20] at hf
        obtain ⟨h21, hf⟩ := chk_of hf
        obtain ⟨f22, ef22, hf⟩ := nm_of hf
        refine r_iast (pc := 41) (ws' := [((q 0), ob 9 [.int (M_thrown v), .ref (q 1), .int (M_taped (M_tp v)), .ref (q 2), .ref (q 3), .ref (q 4), .ref (q 5), .ref (q 6), .ref (q 7), .ref (q 8), .ref (q 9), .ref (q 10), .ref (q 11), .ref (q 12), .ref (q 13), .ref (q 14), .int (M_lines (M_rd v)), .int (M_size (M_rd v)), .int (M_at (M_rd v)), .int (M_place (M_rd v)), .int (M_sort (M_rd v)), .int (M_value (M_rd v)), .int (M_fault (M_rd v)), .int (M_faultPlace (M_rd v)), .int (M_lastFault (M_lf v)), .int (M_lastPlace (M_lf v)), .ref (q 15), .ref (q 16), .ref (q 17), .ref (q 18), .int (M_hasImage (M_im v)), .int (M_spanNow (M_rn v)), .ref (q 19), .int x1, .int (M_alonePlace (M_al v)), .int (M_aloneSteps (M_al v)), .int (M_aloneOut (M_al v)), .ref (q 20), .ref (q 21), .ref (q 22), .ref (q 23), .int (M_shotAlarm (M_ex v)), .int (M_drawn (M_ex v))]), ((q 1), aI K 700 (M_tape (M_tp v))), ((q 2), aI K 20 (M_number (M_cd v))), ((q 3), aZ K 5 (M_isTold (M_rd v))), ((q 4), aI K 80 (M_codeSort (M_cd v))), ((q 5), aI K 80 (M_codeA (M_cd v))), ((q 6), aI K 80 (M_codeB (M_cd v))), ((q 7), aI K 80 (M_codeC (M_cd v))), ((q 8), aI K 80 (M_codeName (M_cd v))), ((q 9), aI K 80 (M_codePlace (M_cd v))), ((q 10), aI K 80 (M_codeTo (M_cd v))), ((q 11), aI K 280 (M_labelName (M_cd v))), ((q 12), aI K 280 (M_labelAt (M_cd v))), ((q 13), aI K 64 (M_data (M_cd v))), ((q 14), aZ K 32 (M_hasData (M_rd v))), ((q 15), aI K 314 f22), ((q 16), aI K 314 (M_aside (M_ex v))), ((q 17), aI K 314 (M_further (M_ex v))), ((q 18), aI K 314 (M_image (M_im v))), ((q 19), aI K 3 (M_sizeNow (M_rn v))), ((q 20), aI K 8 (M_aloneRegister (M_al v))), ((q 21), aI K 4 (M_aloneReal (M_al v))), ((q 22), aI K 32 (M_aloneMemory (M_al v))), ((q 23), aI K 999 (M_aloneOutput (M_al v)))]) cx 15 rfl h21 dX10_branches_41 ef22 rfl ?_
        refine r_aload_n (pc := 42) cx dX10_branches_42 0 rfl ?_
        refine r_get (pc := 43) cx cf_X10 0 26 rfl (by decide) rfl wd_1342 dX10_branches_43 ?_
        refine r_bipush (pc := 46) cx dX10_branches_46 bp_103 ?_
        refine r_dup2 (pc := 48) cx dX10_branches_48 rfl rfl ?_
        refine r_iald (pc := 49) cx 15 rfl (by decide) dX10_branches_49 ?_
        refine r_iconst (pc := 50) cx dX10_branches_50 ic_1 ?_
        refine r_iadd (pc := 51) cx dX10_branches_51 ?_
        obtain ⟨x23, ex23, hf⟩ := nm_of hf
        refine r_nm ex23 ?_
        obtain ⟨f24, ef24, hf⟩ := nm_of hf
        refine r_iast (pc := 52) (ws' := [((q 0), ob 9 [.int (M_thrown v), .ref (q 1), .int (M_taped (M_tp v)), .ref (q 2), .ref (q 3), .ref (q 4), .ref (q 5), .ref (q 6), .ref (q 7), .ref (q 8), .ref (q 9), .ref (q 10), .ref (q 11), .ref (q 12), .ref (q 13), .ref (q 14), .int (M_lines (M_rd v)), .int (M_size (M_rd v)), .int (M_at (M_rd v)), .int (M_place (M_rd v)), .int (M_sort (M_rd v)), .int (M_value (M_rd v)), .int (M_fault (M_rd v)), .int (M_faultPlace (M_rd v)), .int (M_lastFault (M_lf v)), .int (M_lastPlace (M_lf v)), .ref (q 15), .ref (q 16), .ref (q 17), .ref (q 18), .int (M_hasImage (M_im v)), .int (M_spanNow (M_rn v)), .ref (q 19), .int x1, .int (M_alonePlace (M_al v)), .int (M_aloneSteps (M_al v)), .int (M_aloneOut (M_al v)), .ref (q 20), .ref (q 21), .ref (q 22), .ref (q 23), .int (M_shotAlarm (M_ex v)), .int (M_drawn (M_ex v))]), ((q 1), aI K 700 (M_tape (M_tp v))), ((q 2), aI K 20 (M_number (M_cd v))), ((q 3), aZ K 5 (M_isTold (M_rd v))), ((q 4), aI K 80 (M_codeSort (M_cd v))), ((q 5), aI K 80 (M_codeA (M_cd v))), ((q 6), aI K 80 (M_codeB (M_cd v))), ((q 7), aI K 80 (M_codeC (M_cd v))), ((q 8), aI K 80 (M_codeName (M_cd v))), ((q 9), aI K 80 (M_codePlace (M_cd v))), ((q 10), aI K 80 (M_codeTo (M_cd v))), ((q 11), aI K 280 (M_labelName (M_cd v))), ((q 12), aI K 280 (M_labelAt (M_cd v))), ((q 13), aI K 64 (M_data (M_cd v))), ((q 14), aZ K 32 (M_hasData (M_rd v))), ((q 15), aI K 314 f24), ((q 16), aI K 314 (M_aside (M_ex v))), ((q 17), aI K 314 (M_further (M_ex v))), ((q 18), aI K 314 (M_image (M_im v))), ((q 19), aI K 3 (M_sizeNow (M_rn v))), ((q 20), aI K 8 (M_aloneRegister (M_al v))), ((q 21), aI K 4 (M_aloneReal (M_al v))), ((q 22), aI K 32 (M_aloneMemory (M_al v))), ((q 23), aI K 999 (M_aloneOutput (M_al v)))]) cx 15 rfl (by decide) dX10_branches_52 ef24 rfl ?_
        refine r_iconst (pc := 53) cx dX10_branches_53 ic_0 ?_
        cases hf
        exact r_iret (pc := 54) cx rfl rfl dX10_branches_54
      refine r_if_eq (pc := 33) (tgt := 40) cx dX10_branches_33 (by decide) (fun h25 => ?_) (fun h25 => ?_)
      · have hf := ifp h25 hf
        refine r_iconst (pc := 40) cx dX10_branches_40 ic_0 ?_
        refine r_loc (loc' := [(0, .ref (q 0))]) [0] rfl ?_
        exact hJ20 _ hf
      · have hf := ifn h25 hf
        refine r_iconst (pc := 36) cx dX10_branches_36 ic_1 ?_
        refine r_goto (pc := 37) (tgt := 41) cx dX10_branches_37 (by decide) ?_
        refine r_loc (loc' := [(0, .ref (q 0))]) [0] rfl ?_
        exact hJ20 _ hf
  refine r_if_eq (pc := 1) (tgt := 14) cx dX10_branches_1 (by decide) (fun h26 => ?_) (fun h26 => ?_)
  · have hf := ifp h26 hf
    refine r_loc (loc' := [(0, .ref (q 0)), (1, .int a1), (3, .int a3)]) [0, 1, 3] rfl ?_
    exact hJ2 _ hf
  · have hf := ifn h26 hf
    refine r_aload_n (pc := 4) cx dX10_branches_4 0 rfl ?_
    refine r_aload_n (pc := 5) cx dX10_branches_5 0 rfl ?_
    refine r_get (pc := 6) cx cf_X10 0 11 rfl (by decide) rfl wd_1327 dX10_branches_6 ?_
    refine r_iload_n (pc := 9) cx dX10_branches_9 2 rfl ?_
    obtain ⟨h27, hf⟩ := chk_of hf
    refine r_iald (pc := 10) cx 10 rfl h27 dX10_branches_10 ?_
    obtain ⟨x28, ex28, hf⟩ := nm_of hf
    refine r_nm ex28 ?_
    refine r_putI (pc := 11) (ws' := [((q 0), ob 9 [.int (M_thrown v), .ref (q 1), .int (M_taped (M_tp v)), .ref (q 2), .ref (q 3), .ref (q 4), .ref (q 5), .ref (q 6), .ref (q 7), .ref (q 8), .ref (q 9), .ref (q 10), .ref (q 11), .ref (q 12), .ref (q 13), .ref (q 14), .int (M_lines (M_rd v)), .int (M_size (M_rd v)), .int (M_at (M_rd v)), .int (M_place (M_rd v)), .int (M_sort (M_rd v)), .int (M_value (M_rd v)), .int (M_fault (M_rd v)), .int (M_faultPlace (M_rd v)), .int (M_lastFault (M_lf v)), .int (M_lastPlace (M_lf v)), .ref (q 15), .ref (q 16), .ref (q 17), .ref (q 18), .int (M_hasImage (M_im v)), .int (M_spanNow (M_rn v)), .ref (q 19), .int x28, .int (M_alonePlace (M_al v)), .int (M_aloneSteps (M_al v)), .int (M_aloneOut (M_al v)), .ref (q 20), .ref (q 21), .ref (q 22), .ref (q 23), .int (M_shotAlarm (M_ex v)), .int (M_drawn (M_ex v))]), ((q 1), aI K 700 (M_tape (M_tp v))), ((q 2), aI K 20 (M_number (M_cd v))), ((q 3), aZ K 5 (M_isTold (M_rd v))), ((q 4), aI K 80 (M_codeSort (M_cd v))), ((q 5), aI K 80 (M_codeA (M_cd v))), ((q 6), aI K 80 (M_codeB (M_cd v))), ((q 7), aI K 80 (M_codeC (M_cd v))), ((q 8), aI K 80 (M_codeName (M_cd v))), ((q 9), aI K 80 (M_codePlace (M_cd v))), ((q 10), aI K 80 (M_codeTo (M_cd v))), ((q 11), aI K 280 (M_labelName (M_cd v))), ((q 12), aI K 280 (M_labelAt (M_cd v))), ((q 13), aI K 64 (M_data (M_cd v))), ((q 14), aZ K 32 (M_hasData (M_rd v))), ((q 15), aI K 314 (M_s (M_rn v))), ((q 16), aI K 314 (M_aside (M_ex v))), ((q 17), aI K 314 (M_further (M_ex v))), ((q 18), aI K 314 (M_image (M_im v))), ((q 19), aI K 3 (M_sizeNow (M_rn v))), ((q 20), aI K 8 (M_aloneRegister (M_al v))), ((q 21), aI K 4 (M_aloneReal (M_al v))), ((q 22), aI K 32 (M_aloneMemory (M_al v))), ((q 23), aI K 999 (M_aloneOutput (M_al v)))]) cx cf_X10 0 33 rfl (by decide) (Nat.le_of_ble_eq_true rfl) rfl pfd_I wd_1349 dX10_branches_11 rfl ?_
    refine r_loc (loc' := [(0, .ref (q 0)), (1, .int a1), (3, .int a3)]) [0, 1, 3] rfl ?_
    exact hJ2 _ hf
theorem yv_X10_branches : YV yX10_branches cX10_branches 6 (some .int) 3 := ⟨⟨by decide +kernel, by decide +kernel, by decide +kernel⟩, wd_1666, wd_102, wd_1665, wd_66⟩
def f_M_leaderHolds (v : T_M) (a1 : Int32) (a2 : Int32) : Option (Int32 × T_M) :=
  (if ix ((114 : Int32) + ((M_s (M_rn v)) (112 : Int32).toNatClampNeg)) 314 then (nm (upd (M_s (M_rn v)) (((114 : Int32) + ((M_s (M_rn v)) (112 : Int32).toNatClampNeg))).toNatClampNeg a1) fun (f2 : Nat → Int32) => (if ix ((122 : Int32) + (f2 (112 : Int32).toNatClampNeg)) 314 then (nm (upd f2 (((122 : Int32) + (f2 (112 : Int32).toNatClampNeg))).toNatClampNeg a2) fun (f4 : Nat → Int32) => (nm ((f4 (112 : Int32).toNatClampNeg) + (1 : Int32)) fun (x5 : Int32) => (nm (upd f4 (112 : Int32).toNatClampNeg x5) fun (f6 : Nat → Int32) => (some ((0 : Int32), ((M_tp v), (M_rd v), (M_lf v), (M_cd v), (f6, (M_spanNow (M_rn v)), (M_sizeNow (M_rn v)), (M_placeThen (M_rn v))), (M_ex v), (M_im v), (M_al v), (M_thrown v))))))) else none)) else none)
abbrev rm_M_leaderHolds : Room := { frames := 0, cells := 0, slots := 0, locals := 0 }
set_option maxRecDepth 100000 in
set_option maxHeartbeats 4000000 in
theorem m_M_leaderHolds (l : Launch) (D : va_G) (K : Nat → ClassId) (q : Nat → Nat) (v : T_M) (a1 : Int32) (a2 : Int32) {r_ : Int32} {o_v : T_M} (hf : f_M_leaderHolds v a1 a2 = some (r_, o_v)) : MI l yX10_leaderHolds cX10_leaderHolds 3 (some .int) rm_M_leaderHolds D K [.ref (q 0), .int a1, .int a2] (cl_M K q v) r_ (cl_M K q o_v) := by
  refine MI_of (loc0 := [(0, .ref (q 0)), (1, .int a1), (2, .int a2)]) (by decide +kernel) rfl (Nat.le_of_ble_eq_true rfl) ?_
  intro p e s m args below meth c A cx
  unfold f_M_leaderHolds at hf
  refine r_ws (ws' := [((q 0), ob 9 [.int (M_thrown v), .ref (q 1), .int (M_taped (M_tp v)), .ref (q 2), .ref (q 3), .ref (q 4), .ref (q 5), .ref (q 6), .ref (q 7), .ref (q 8), .ref (q 9), .ref (q 10), .ref (q 11), .ref (q 12), .ref (q 13), .ref (q 14), .int (M_lines (M_rd v)), .int (M_size (M_rd v)), .int (M_at (M_rd v)), .int (M_place (M_rd v)), .int (M_sort (M_rd v)), .int (M_value (M_rd v)), .int (M_fault (M_rd v)), .int (M_faultPlace (M_rd v)), .int (M_lastFault (M_lf v)), .int (M_lastPlace (M_lf v)), .ref (q 15), .ref (q 16), .ref (q 17), .ref (q 18), .int (M_hasImage (M_im v)), .int (M_spanNow (M_rn v)), .ref (q 19), .int (M_placeThen (M_rn v)), .int (M_alonePlace (M_al v)), .int (M_aloneSteps (M_al v)), .int (M_aloneOut (M_al v)), .ref (q 20), .ref (q 21), .ref (q 22), .ref (q 23), .int (M_shotAlarm (M_ex v)), .int (M_drawn (M_ex v))]), ((q 1), aI K 700 (M_tape (M_tp v))), ((q 2), aI K 20 (M_number (M_cd v))), ((q 3), aZ K 5 (M_isTold (M_rd v))), ((q 4), aI K 80 (M_codeSort (M_cd v))), ((q 5), aI K 80 (M_codeA (M_cd v))), ((q 6), aI K 80 (M_codeB (M_cd v))), ((q 7), aI K 80 (M_codeC (M_cd v))), ((q 8), aI K 80 (M_codeName (M_cd v))), ((q 9), aI K 80 (M_codePlace (M_cd v))), ((q 10), aI K 80 (M_codeTo (M_cd v))), ((q 11), aI K 280 (M_labelName (M_cd v))), ((q 12), aI K 280 (M_labelAt (M_cd v))), ((q 13), aI K 64 (M_data (M_cd v))), ((q 14), aZ K 32 (M_hasData (M_rd v))), ((q 15), aI K 314 (M_s (M_rn v))), ((q 16), aI K 314 (M_aside (M_ex v))), ((q 17), aI K 314 (M_further (M_ex v))), ((q 18), aI K 314 (M_image (M_im v))), ((q 19), aI K 3 (M_sizeNow (M_rn v))), ((q 20), aI K 8 (M_aloneRegister (M_al v))), ((q 21), aI K 4 (M_aloneReal (M_al v))), ((q 22), aI K 32 (M_aloneMemory (M_al v))), ((q 23), aI K 999 (M_aloneOutput (M_al v)))]) rfl ?_
  refine r_aload_n (pc := 0) cx dX10_leaderHolds_0 0 rfl ?_
  refine r_get (pc := 1) cx cf_X10 0 26 rfl (by decide) rfl wd_1342 dX10_leaderHolds_1 ?_
  refine r_bipush (pc := 4) cx dX10_leaderHolds_4 bp_114 ?_
  refine r_aload_n (pc := 6) cx dX10_leaderHolds_6 0 rfl ?_
  refine r_get (pc := 7) cx cf_X10 0 26 rfl (by decide) rfl wd_1342 dX10_leaderHolds_7 ?_
  refine r_bipush (pc := 10) cx dX10_leaderHolds_10 bp_112 ?_
  refine r_iald (pc := 12) cx 15 rfl (by decide) dX10_leaderHolds_12 ?_
  refine r_iadd (pc := 13) cx dX10_leaderHolds_13 ?_
  refine r_iload_n (pc := 14) cx dX10_leaderHolds_14 1 rfl ?_
  obtain ⟨h1, hf⟩ := chk_of hf
  obtain ⟨f2, ef2, hf⟩ := nm_of hf
  refine r_iast (pc := 15) (ws' := [((q 0), ob 9 [.int (M_thrown v), .ref (q 1), .int (M_taped (M_tp v)), .ref (q 2), .ref (q 3), .ref (q 4), .ref (q 5), .ref (q 6), .ref (q 7), .ref (q 8), .ref (q 9), .ref (q 10), .ref (q 11), .ref (q 12), .ref (q 13), .ref (q 14), .int (M_lines (M_rd v)), .int (M_size (M_rd v)), .int (M_at (M_rd v)), .int (M_place (M_rd v)), .int (M_sort (M_rd v)), .int (M_value (M_rd v)), .int (M_fault (M_rd v)), .int (M_faultPlace (M_rd v)), .int (M_lastFault (M_lf v)), .int (M_lastPlace (M_lf v)), .ref (q 15), .ref (q 16), .ref (q 17), .ref (q 18), .int (M_hasImage (M_im v)), .int (M_spanNow (M_rn v)), .ref (q 19), .int (M_placeThen (M_rn v)), .int (M_alonePlace (M_al v)), .int (M_aloneSteps (M_al v)), .int (M_aloneOut (M_al v)), .ref (q 20), .ref (q 21), .ref (q 22), .ref (q 23), .int (M_shotAlarm (M_ex v)), .int (M_drawn (M_ex v))]), ((q 1), aI K 700 (M_tape (M_tp v))), ((q 2), aI K 20 (M_number (M_cd v))), ((q 3), aZ K 5 (M_isTold (M_rd v))), ((q 4), aI K 80 (M_codeSort (M_cd v))), ((q 5), aI K 80 (M_codeA (M_cd v))), ((q 6), aI K 80 (M_codeB (M_cd v))), ((q 7), aI K 80 (M_codeC (M_cd v))), ((q 8), aI K 80 (M_codeName (M_cd v))), ((q 9), aI K 80 (M_codePlace (M_cd v))), ((q 10), aI K 80 (M_codeTo (M_cd v))), ((q 11), aI K 280 (M_labelName (M_cd v))), ((q 12), aI K 280 (M_labelAt (M_cd v))), ((q 13), aI K 64 (M_data (M_cd v))), ((q 14), aZ K 32 (M_hasData (M_rd v))), ((q 15), aI K 314 f2), ((q 16), aI K 314 (M_aside (M_ex v))), ((q 17), aI K 314 (M_further (M_ex v))), ((q 18), aI K 314 (M_image (M_im v))), ((q 19), aI K 3 (M_sizeNow (M_rn v))), ((q 20), aI K 8 (M_aloneRegister (M_al v))), ((q 21), aI K 4 (M_aloneReal (M_al v))), ((q 22), aI K 32 (M_aloneMemory (M_al v))), ((q 23), aI K 999 (M_aloneOutput (M_al v)))]) cx 15 rfl h1 dX10_leaderHolds_15 ef2 rfl ?_
  refine r_aload_n (pc := 16) cx dX10_leaderHolds_16 0 rfl ?_
  refine r_get (pc := 17) cx cf_X10 0 26 rfl (by decide) rfl wd_1342 dX10_leaderHolds_17 ?_
  refine r_bipush (pc := 20) cx dX10_leaderHolds_20 bp_122 ?_
  refine r_aload_n (pc := 22) cx dX10_leaderHolds_22 0 rfl ?_
  refine r_get (pc := 23) cx cf_X10 0 26 rfl (by decide) rfl wd_1342 dX10_leaderHolds_23 ?_
  refine r_bipush (pc := 26) cx dX10_leaderHolds_26 bp_112 ?_
  refine r_iald (pc := 28) cx 15 rfl (by decide) dX10_leaderHolds_28 ?_
  refine r_iadd (pc := 29) cx dX10_leaderHolds_29 ?_
  refine r_iload_n (pc := 30) cx dX10_leaderHolds_30 2 rfl ?_
  obtain ⟨h3, hf⟩ := chk_of hf
  obtain ⟨f4, ef4, hf⟩ := nm_of hf
  refine r_iast (pc := 31) (ws' := [((q 0), ob 9 [.int (M_thrown v), .ref (q 1), .int (M_taped (M_tp v)), .ref (q 2), .ref (q 3), .ref (q 4), .ref (q 5), .ref (q 6), .ref (q 7), .ref (q 8), .ref (q 9), .ref (q 10), .ref (q 11), .ref (q 12), .ref (q 13), .ref (q 14), .int (M_lines (M_rd v)), .int (M_size (M_rd v)), .int (M_at (M_rd v)), .int (M_place (M_rd v)), .int (M_sort (M_rd v)), .int (M_value (M_rd v)), .int (M_fault (M_rd v)), .int (M_faultPlace (M_rd v)), .int (M_lastFault (M_lf v)), .int (M_lastPlace (M_lf v)), .ref (q 15), .ref (q 16), .ref (q 17), .ref (q 18), .int (M_hasImage (M_im v)), .int (M_spanNow (M_rn v)), .ref (q 19), .int (M_placeThen (M_rn v)), .int (M_alonePlace (M_al v)), .int (M_aloneSteps (M_al v)), .int (M_aloneOut (M_al v)), .ref (q 20), .ref (q 21), .ref (q 22), .ref (q 23), .int (M_shotAlarm (M_ex v)), .int (M_drawn (M_ex v))]), ((q 1), aI K 700 (M_tape (M_tp v))), ((q 2), aI K 20 (M_number (M_cd v))), ((q 3), aZ K 5 (M_isTold (M_rd v))), ((q 4), aI K 80 (M_codeSort (M_cd v))), ((q 5), aI K 80 (M_codeA (M_cd v))), ((q 6), aI K 80 (M_codeB (M_cd v))), ((q 7), aI K 80 (M_codeC (M_cd v))), ((q 8), aI K 80 (M_codeName (M_cd v))), ((q 9), aI K 80 (M_codePlace (M_cd v))), ((q 10), aI K 80 (M_codeTo (M_cd v))), ((q 11), aI K 280 (M_labelName (M_cd v))), ((q 12), aI K 280 (M_labelAt (M_cd v))), ((q 13), aI K 64 (M_data (M_cd v))), ((q 14), aZ K 32 (M_hasData (M_rd v))), ((q 15), aI K 314 f4), ((q 16), aI K 314 (M_aside (M_ex v))), ((q 17), aI K 314 (M_further (M_ex v))), ((q 18), aI K 314 (M_image (M_im v))), ((q 19), aI K 3 (M_sizeNow (M_rn v))), ((q 20), aI K 8 (M_aloneRegister (M_al v))), ((q 21), aI K 4 (M_aloneReal (M_al v))), ((q 22), aI K 32 (M_aloneMemory (M_al v))), ((q 23), aI K 999 (M_aloneOutput (M_al v)))]) cx 15 rfl h3 dX10_leaderHolds_31 ef4 rfl ?_
  refine r_aload_n (pc := 32) cx dX10_leaderHolds_32 0 rfl ?_
  refine r_get (pc := 33) cx cf_X10 0 26 rfl (by decide) rfl wd_1342 dX10_leaderHolds_33 ?_
  refine r_bipush (pc := 36) cx dX10_leaderHolds_36 bp_112 ?_
  refine r_dup2 (pc := 38) cx dX10_leaderHolds_38 rfl rfl ?_
  refine r_iald (pc := 39) cx 15 rfl (by decide) dX10_leaderHolds_39 ?_
  refine r_iconst (pc := 40) cx dX10_leaderHolds_40 ic_1 ?_
  refine r_iadd (pc := 41) cx dX10_leaderHolds_41 ?_
  obtain ⟨x5, ex5, hf⟩ := nm_of hf
  refine r_nm ex5 ?_
  obtain ⟨f6, ef6, hf⟩ := nm_of hf
  refine r_iast (pc := 42) (ws' := [((q 0), ob 9 [.int (M_thrown v), .ref (q 1), .int (M_taped (M_tp v)), .ref (q 2), .ref (q 3), .ref (q 4), .ref (q 5), .ref (q 6), .ref (q 7), .ref (q 8), .ref (q 9), .ref (q 10), .ref (q 11), .ref (q 12), .ref (q 13), .ref (q 14), .int (M_lines (M_rd v)), .int (M_size (M_rd v)), .int (M_at (M_rd v)), .int (M_place (M_rd v)), .int (M_sort (M_rd v)), .int (M_value (M_rd v)), .int (M_fault (M_rd v)), .int (M_faultPlace (M_rd v)), .int (M_lastFault (M_lf v)), .int (M_lastPlace (M_lf v)), .ref (q 15), .ref (q 16), .ref (q 17), .ref (q 18), .int (M_hasImage (M_im v)), .int (M_spanNow (M_rn v)), .ref (q 19), .int (M_placeThen (M_rn v)), .int (M_alonePlace (M_al v)), .int (M_aloneSteps (M_al v)), .int (M_aloneOut (M_al v)), .ref (q 20), .ref (q 21), .ref (q 22), .ref (q 23), .int (M_shotAlarm (M_ex v)), .int (M_drawn (M_ex v))]), ((q 1), aI K 700 (M_tape (M_tp v))), ((q 2), aI K 20 (M_number (M_cd v))), ((q 3), aZ K 5 (M_isTold (M_rd v))), ((q 4), aI K 80 (M_codeSort (M_cd v))), ((q 5), aI K 80 (M_codeA (M_cd v))), ((q 6), aI K 80 (M_codeB (M_cd v))), ((q 7), aI K 80 (M_codeC (M_cd v))), ((q 8), aI K 80 (M_codeName (M_cd v))), ((q 9), aI K 80 (M_codePlace (M_cd v))), ((q 10), aI K 80 (M_codeTo (M_cd v))), ((q 11), aI K 280 (M_labelName (M_cd v))), ((q 12), aI K 280 (M_labelAt (M_cd v))), ((q 13), aI K 64 (M_data (M_cd v))), ((q 14), aZ K 32 (M_hasData (M_rd v))), ((q 15), aI K 314 f6), ((q 16), aI K 314 (M_aside (M_ex v))), ((q 17), aI K 314 (M_further (M_ex v))), ((q 18), aI K 314 (M_image (M_im v))), ((q 19), aI K 3 (M_sizeNow (M_rn v))), ((q 20), aI K 8 (M_aloneRegister (M_al v))), ((q 21), aI K 4 (M_aloneReal (M_al v))), ((q 22), aI K 32 (M_aloneMemory (M_al v))), ((q 23), aI K 999 (M_aloneOutput (M_al v)))]) cx 15 rfl (by decide) dX10_leaderHolds_42 ef6 rfl ?_
  refine r_iconst (pc := 43) cx dX10_leaderHolds_43 ic_0 ?_
  cases hf
  exact r_iret (pc := 44) cx rfl rfl dX10_leaderHolds_44
theorem yv_X10_leaderHolds : YV yX10_leaderHolds cX10_leaderHolds 3 (some .int) 2 := ⟨⟨by decide +kernel, by decide +kernel, by decide +kernel⟩, wd_1622, wd_102, wd_1621, wd_64⟩
def f_M_trailerHolds (v : T_M) (a1 : Int32) (a2 : Int32) : Option (Int32 × T_M) :=
  (nm ((M_s (M_rn v)) (113 : Int32).toNatClampNeg) fun (x1 : Int32) => (if ix ((130 : Int32) + x1) 314 then (nm (upd (M_s (M_rn v)) (((130 : Int32) + x1)).toNatClampNeg a1) fun (f3 : Nat → Int32) => (if ix ((138 : Int32) + x1) 314 then (nm (upd f3 (((138 : Int32) + x1)).toNatClampNeg a2) fun (f5 : Nat → Int32) => (if ix ((114 : Int32) + x1) 314 then (if (f5 (((114 : Int32) + x1)).toNatClampNeg) = a1 then (if ix ((122 : Int32) + x1) 314 then (if (f5 (((122 : Int32) + x1)).toNatClampNeg) = a2 then (nm ((f5 (113 : Int32).toNatClampNeg) + (1 : Int32)) fun (x10 : Int32) => (nm (upd f5 (113 : Int32).toNatClampNeg x10) fun (f11 : Nat → Int32) => (some ((0 : Int32), ((M_tp v), (M_rd v), (M_lf v), (M_cd v), (f11, (M_spanNow (M_rn v)), (M_sizeNow (M_rn v)), (M_placeThen (M_rn v))), (M_ex v), (M_im v), (M_al v), (M_thrown v)))))) else (some ((3 : Int32), ((M_tp v), (M_rd v), (M_lf v), (M_cd v), (f5, (M_spanNow (M_rn v)), (M_sizeNow (M_rn v)), (M_placeThen (M_rn v))), (M_ex v), (M_im v), (M_al v), (M_thrown v))))) else none) else (some ((3 : Int32), ((M_tp v), (M_rd v), (M_lf v), (M_cd v), (f5, (M_spanNow (M_rn v)), (M_sizeNow (M_rn v)), (M_placeThen (M_rn v))), (M_ex v), (M_im v), (M_al v), (M_thrown v))))) else none)) else none)) else none))
abbrev rm_M_trailerHolds : Room := { frames := 0, cells := 0, slots := 0, locals := 0 }
set_option maxRecDepth 100000 in
set_option maxHeartbeats 4000000 in
theorem m_M_trailerHolds (l : Launch) (D : va_G) (K : Nat → ClassId) (q : Nat → Nat) (v : T_M) (a1 : Int32) (a2 : Int32) {r_ : Int32} {o_v : T_M} (hf : f_M_trailerHolds v a1 a2 = some (r_, o_v)) : MI l yX10_trailerHolds cX10_trailerHolds 4 (some .int) rm_M_trailerHolds D K [.ref (q 0), .int a1, .int a2] (cl_M K q v) r_ (cl_M K q o_v) := by
  refine MI_of (loc0 := [(0, .ref (q 0)), (1, .int a1), (2, .int a2)]) (by decide +kernel) rfl (Nat.le_of_ble_eq_true rfl) ?_
  intro p e s m args below meth c A cx
  unfold f_M_trailerHolds at hf
  refine r_ws (ws' := [((q 0), ob 9 [.int (M_thrown v), .ref (q 1), .int (M_taped (M_tp v)), .ref (q 2), .ref (q 3), .ref (q 4), .ref (q 5), .ref (q 6), .ref (q 7), .ref (q 8), .ref (q 9), .ref (q 10), .ref (q 11), .ref (q 12), .ref (q 13), .ref (q 14), .int (M_lines (M_rd v)), .int (M_size (M_rd v)), .int (M_at (M_rd v)), .int (M_place (M_rd v)), .int (M_sort (M_rd v)), .int (M_value (M_rd v)), .int (M_fault (M_rd v)), .int (M_faultPlace (M_rd v)), .int (M_lastFault (M_lf v)), .int (M_lastPlace (M_lf v)), .ref (q 15), .ref (q 16), .ref (q 17), .ref (q 18), .int (M_hasImage (M_im v)), .int (M_spanNow (M_rn v)), .ref (q 19), .int (M_placeThen (M_rn v)), .int (M_alonePlace (M_al v)), .int (M_aloneSteps (M_al v)), .int (M_aloneOut (M_al v)), .ref (q 20), .ref (q 21), .ref (q 22), .ref (q 23), .int (M_shotAlarm (M_ex v)), .int (M_drawn (M_ex v))]), ((q 1), aI K 700 (M_tape (M_tp v))), ((q 2), aI K 20 (M_number (M_cd v))), ((q 3), aZ K 5 (M_isTold (M_rd v))), ((q 4), aI K 80 (M_codeSort (M_cd v))), ((q 5), aI K 80 (M_codeA (M_cd v))), ((q 6), aI K 80 (M_codeB (M_cd v))), ((q 7), aI K 80 (M_codeC (M_cd v))), ((q 8), aI K 80 (M_codeName (M_cd v))), ((q 9), aI K 80 (M_codePlace (M_cd v))), ((q 10), aI K 80 (M_codeTo (M_cd v))), ((q 11), aI K 280 (M_labelName (M_cd v))), ((q 12), aI K 280 (M_labelAt (M_cd v))), ((q 13), aI K 64 (M_data (M_cd v))), ((q 14), aZ K 32 (M_hasData (M_rd v))), ((q 15), aI K 314 (M_s (M_rn v))), ((q 16), aI K 314 (M_aside (M_ex v))), ((q 17), aI K 314 (M_further (M_ex v))), ((q 18), aI K 314 (M_image (M_im v))), ((q 19), aI K 3 (M_sizeNow (M_rn v))), ((q 20), aI K 8 (M_aloneRegister (M_al v))), ((q 21), aI K 4 (M_aloneReal (M_al v))), ((q 22), aI K 32 (M_aloneMemory (M_al v))), ((q 23), aI K 999 (M_aloneOutput (M_al v)))]) rfl ?_
  refine r_aload_n (pc := 0) cx dX10_trailerHolds_0 0 rfl ?_
  refine r_get (pc := 1) cx cf_X10 0 26 rfl (by decide) rfl wd_1342 dX10_trailerHolds_1 ?_
  refine r_bipush (pc := 4) cx dX10_trailerHolds_4 bp_113 ?_
  refine r_iald (pc := 6) cx 15 rfl (by decide) dX10_trailerHolds_6 ?_
  obtain ⟨x1, ex1, hf⟩ := nm_of hf
  refine r_nm ex1 ?_
  refine r_istore_n (pc := 7) (loc' := [(3, .int x1), (0, .ref (q 0)), (1, .int a1), (2, .int a2)]) cx dX10_trailerHolds_7 rfl (by decide) rfl ?_
  refine r_aload_n (pc := 8) cx dX10_trailerHolds_8 1 rfl ?_
  refine r_get (pc := 9) cx cf_X10 0 26 rfl (by decide) rfl wd_1342 dX10_trailerHolds_9 ?_
  refine r_sipush (pc := 12) cx dX10_trailerHolds_12 sp_130 ?_
  refine r_iload_n (pc := 15) cx dX10_trailerHolds_15 0 rfl ?_
  refine r_iadd (pc := 16) cx dX10_trailerHolds_16 ?_
  refine r_iload_n (pc := 17) cx dX10_trailerHolds_17 2 rfl ?_
  obtain ⟨h2, hf⟩ := chk_of hf
  obtain ⟨f3, ef3, hf⟩ := nm_of hf
  refine r_iast (pc := 18) (ws' := [((q 0), ob 9 [.int (M_thrown v), .ref (q 1), .int (M_taped (M_tp v)), .ref (q 2), .ref (q 3), .ref (q 4), .ref (q 5), .ref (q 6), .ref (q 7), .ref (q 8), .ref (q 9), .ref (q 10), .ref (q 11), .ref (q 12), .ref (q 13), .ref (q 14), .int (M_lines (M_rd v)), .int (M_size (M_rd v)), .int (M_at (M_rd v)), .int (M_place (M_rd v)), .int (M_sort (M_rd v)), .int (M_value (M_rd v)), .int (M_fault (M_rd v)), .int (M_faultPlace (M_rd v)), .int (M_lastFault (M_lf v)), .int (M_lastPlace (M_lf v)), .ref (q 15), .ref (q 16), .ref (q 17), .ref (q 18), .int (M_hasImage (M_im v)), .int (M_spanNow (M_rn v)), .ref (q 19), .int (M_placeThen (M_rn v)), .int (M_alonePlace (M_al v)), .int (M_aloneSteps (M_al v)), .int (M_aloneOut (M_al v)), .ref (q 20), .ref (q 21), .ref (q 22), .ref (q 23), .int (M_shotAlarm (M_ex v)), .int (M_drawn (M_ex v))]), ((q 1), aI K 700 (M_tape (M_tp v))), ((q 2), aI K 20 (M_number (M_cd v))), ((q 3), aZ K 5 (M_isTold (M_rd v))), ((q 4), aI K 80 (M_codeSort (M_cd v))), ((q 5), aI K 80 (M_codeA (M_cd v))), ((q 6), aI K 80 (M_codeB (M_cd v))), ((q 7), aI K 80 (M_codeC (M_cd v))), ((q 8), aI K 80 (M_codeName (M_cd v))), ((q 9), aI K 80 (M_codePlace (M_cd v))), ((q 10), aI K 80 (M_codeTo (M_cd v))), ((q 11), aI K 280 (M_labelName (M_cd v))), ((q 12), aI K 280 (M_labelAt (M_cd v))), ((q 13), aI K 64 (M_data (M_cd v))), ((q 14), aZ K 32 (M_hasData (M_rd v))), ((q 15), aI K 314 f3), ((q 16), aI K 314 (M_aside (M_ex v))), ((q 17), aI K 314 (M_further (M_ex v))), ((q 18), aI K 314 (M_image (M_im v))), ((q 19), aI K 3 (M_sizeNow (M_rn v))), ((q 20), aI K 8 (M_aloneRegister (M_al v))), ((q 21), aI K 4 (M_aloneReal (M_al v))), ((q 22), aI K 32 (M_aloneMemory (M_al v))), ((q 23), aI K 999 (M_aloneOutput (M_al v)))]) cx 15 rfl h2 dX10_trailerHolds_18 ef3 rfl ?_
  refine r_aload_n (pc := 19) cx dX10_trailerHolds_19 1 rfl ?_
  refine r_get (pc := 20) cx cf_X10 0 26 rfl (by decide) rfl wd_1342 dX10_trailerHolds_20 ?_
  refine r_sipush (pc := 23) cx dX10_trailerHolds_23 sp_138 ?_
  refine r_iload_n (pc := 26) cx dX10_trailerHolds_26 0 rfl ?_
  refine r_iadd (pc := 27) cx dX10_trailerHolds_27 ?_
  refine r_iload_n (pc := 28) cx dX10_trailerHolds_28 3 rfl ?_
  obtain ⟨h4, hf⟩ := chk_of hf
  obtain ⟨f5, ef5, hf⟩ := nm_of hf
  refine r_iast (pc := 29) (ws' := [((q 0), ob 9 [.int (M_thrown v), .ref (q 1), .int (M_taped (M_tp v)), .ref (q 2), .ref (q 3), .ref (q 4), .ref (q 5), .ref (q 6), .ref (q 7), .ref (q 8), .ref (q 9), .ref (q 10), .ref (q 11), .ref (q 12), .ref (q 13), .ref (q 14), .int (M_lines (M_rd v)), .int (M_size (M_rd v)), .int (M_at (M_rd v)), .int (M_place (M_rd v)), .int (M_sort (M_rd v)), .int (M_value (M_rd v)), .int (M_fault (M_rd v)), .int (M_faultPlace (M_rd v)), .int (M_lastFault (M_lf v)), .int (M_lastPlace (M_lf v)), .ref (q 15), .ref (q 16), .ref (q 17), .ref (q 18), .int (M_hasImage (M_im v)), .int (M_spanNow (M_rn v)), .ref (q 19), .int (M_placeThen (M_rn v)), .int (M_alonePlace (M_al v)), .int (M_aloneSteps (M_al v)), .int (M_aloneOut (M_al v)), .ref (q 20), .ref (q 21), .ref (q 22), .ref (q 23), .int (M_shotAlarm (M_ex v)), .int (M_drawn (M_ex v))]), ((q 1), aI K 700 (M_tape (M_tp v))), ((q 2), aI K 20 (M_number (M_cd v))), ((q 3), aZ K 5 (M_isTold (M_rd v))), ((q 4), aI K 80 (M_codeSort (M_cd v))), ((q 5), aI K 80 (M_codeA (M_cd v))), ((q 6), aI K 80 (M_codeB (M_cd v))), ((q 7), aI K 80 (M_codeC (M_cd v))), ((q 8), aI K 80 (M_codeName (M_cd v))), ((q 9), aI K 80 (M_codePlace (M_cd v))), ((q 10), aI K 80 (M_codeTo (M_cd v))), ((q 11), aI K 280 (M_labelName (M_cd v))), ((q 12), aI K 280 (M_labelAt (M_cd v))), ((q 13), aI K 64 (M_data (M_cd v))), ((q 14), aZ K 32 (M_hasData (M_rd v))), ((q 15), aI K 314 f5), ((q 16), aI K 314 (M_aside (M_ex v))), ((q 17), aI K 314 (M_further (M_ex v))), ((q 18), aI K 314 (M_image (M_im v))), ((q 19), aI K 3 (M_sizeNow (M_rn v))), ((q 20), aI K 8 (M_aloneRegister (M_al v))), ((q 21), aI K 4 (M_aloneReal (M_al v))), ((q 22), aI K 32 (M_aloneMemory (M_al v))), ((q 23), aI K 999 (M_aloneOutput (M_al v)))]) cx 15 rfl h4 dX10_trailerHolds_29 ef5 rfl ?_
  refine r_aload_n (pc := 30) cx dX10_trailerHolds_30 1 rfl ?_
  refine r_get (pc := 31) cx cf_X10 0 26 rfl (by decide) rfl wd_1342 dX10_trailerHolds_31 ?_
  refine r_bipush (pc := 34) cx dX10_trailerHolds_34 bp_114 ?_
  refine r_iload_n (pc := 36) cx dX10_trailerHolds_36 0 rfl ?_
  refine r_iadd (pc := 37) cx dX10_trailerHolds_37 ?_
  obtain ⟨h6, hf⟩ := chk_of hf
  refine r_iald (pc := 38) cx 15 rfl h6 dX10_trailerHolds_38 ?_
  refine r_iload_n (pc := 39) cx dX10_trailerHolds_39 2 rfl ?_
  refine r_icmp_ne (pc := 40) (tgt := 56) cx dX10_trailerHolds_40 (by decide) (fun h7 => ?_) (fun h7 => ?_)
  · have hf := ifn h7 hf
    refine r_iconst (pc := 56) cx dX10_trailerHolds_56 ic_3 ?_
    cases hf
    exact r_iret (pc := 57) cx rfl rfl dX10_trailerHolds_57
  · have hf := ifp h7 hf
    refine r_aload_n (pc := 43) cx dX10_trailerHolds_43 1 rfl ?_
    refine r_get (pc := 44) cx cf_X10 0 26 rfl (by decide) rfl wd_1342 dX10_trailerHolds_44 ?_
    refine r_bipush (pc := 47) cx dX10_trailerHolds_47 bp_122 ?_
    refine r_iload_n (pc := 49) cx dX10_trailerHolds_49 0 rfl ?_
    refine r_iadd (pc := 50) cx dX10_trailerHolds_50 ?_
    obtain ⟨h8, hf⟩ := chk_of hf
    refine r_iald (pc := 51) cx 15 rfl h8 dX10_trailerHolds_51 ?_
    refine r_iload_n (pc := 52) cx dX10_trailerHolds_52 3 rfl ?_
    refine r_icmp_eq (pc := 53) (tgt := 58) cx dX10_trailerHolds_53 (by decide) (fun h9 => ?_) (fun h9 => ?_)
    · have hf := ifp h9 hf
      refine r_aload_n (pc := 58) cx dX10_trailerHolds_58 1 rfl ?_
      refine r_get (pc := 59) cx cf_X10 0 26 rfl (by decide) rfl wd_1342 dX10_trailerHolds_59 ?_
      refine r_bipush (pc := 62) cx dX10_trailerHolds_62 bp_113 ?_
      refine r_dup2 (pc := 64) cx dX10_trailerHolds_64 rfl rfl ?_
      refine r_iald (pc := 65) cx 15 rfl (by decide) dX10_trailerHolds_65 ?_
      refine r_iconst (pc := 66) cx dX10_trailerHolds_66 ic_1 ?_
      refine r_iadd (pc := 67) cx dX10_trailerHolds_67 ?_
      obtain ⟨x10, ex10, hf⟩ := nm_of hf
      refine r_nm ex10 ?_
      obtain ⟨f11, ef11, hf⟩ := nm_of hf
      refine r_iast (pc := 68) (ws' := [((q 0), ob 9 [.int (M_thrown v), .ref (q 1), .int (M_taped (M_tp v)), .ref (q 2), .ref (q 3), .ref (q 4), .ref (q 5), .ref (q 6), .ref (q 7), .ref (q 8), .ref (q 9), .ref (q 10), .ref (q 11), .ref (q 12), .ref (q 13), .ref (q 14), .int (M_lines (M_rd v)), .int (M_size (M_rd v)), .int (M_at (M_rd v)), .int (M_place (M_rd v)), .int (M_sort (M_rd v)), .int (M_value (M_rd v)), .int (M_fault (M_rd v)), .int (M_faultPlace (M_rd v)), .int (M_lastFault (M_lf v)), .int (M_lastPlace (M_lf v)), .ref (q 15), .ref (q 16), .ref (q 17), .ref (q 18), .int (M_hasImage (M_im v)), .int (M_spanNow (M_rn v)), .ref (q 19), .int (M_placeThen (M_rn v)), .int (M_alonePlace (M_al v)), .int (M_aloneSteps (M_al v)), .int (M_aloneOut (M_al v)), .ref (q 20), .ref (q 21), .ref (q 22), .ref (q 23), .int (M_shotAlarm (M_ex v)), .int (M_drawn (M_ex v))]), ((q 1), aI K 700 (M_tape (M_tp v))), ((q 2), aI K 20 (M_number (M_cd v))), ((q 3), aZ K 5 (M_isTold (M_rd v))), ((q 4), aI K 80 (M_codeSort (M_cd v))), ((q 5), aI K 80 (M_codeA (M_cd v))), ((q 6), aI K 80 (M_codeB (M_cd v))), ((q 7), aI K 80 (M_codeC (M_cd v))), ((q 8), aI K 80 (M_codeName (M_cd v))), ((q 9), aI K 80 (M_codePlace (M_cd v))), ((q 10), aI K 80 (M_codeTo (M_cd v))), ((q 11), aI K 280 (M_labelName (M_cd v))), ((q 12), aI K 280 (M_labelAt (M_cd v))), ((q 13), aI K 64 (M_data (M_cd v))), ((q 14), aZ K 32 (M_hasData (M_rd v))), ((q 15), aI K 314 f11), ((q 16), aI K 314 (M_aside (M_ex v))), ((q 17), aI K 314 (M_further (M_ex v))), ((q 18), aI K 314 (M_image (M_im v))), ((q 19), aI K 3 (M_sizeNow (M_rn v))), ((q 20), aI K 8 (M_aloneRegister (M_al v))), ((q 21), aI K 4 (M_aloneReal (M_al v))), ((q 22), aI K 32 (M_aloneMemory (M_al v))), ((q 23), aI K 999 (M_aloneOutput (M_al v)))]) cx 15 rfl (by decide) dX10_trailerHolds_68 ef11 rfl ?_
      refine r_iconst (pc := 69) cx dX10_trailerHolds_69 ic_0 ?_
      cases hf
      exact r_iret (pc := 70) cx rfl rfl dX10_trailerHolds_70
    · have hf := ifn h9 hf
      refine r_iconst (pc := 56) cx dX10_trailerHolds_56 ic_3 ?_
      cases hf
      exact r_iret (pc := 57) cx rfl rfl dX10_trailerHolds_57
theorem yv_X10_trailerHolds : YV yX10_trailerHolds cX10_trailerHolds 4 (some .int) 2 := ⟨⟨by decide +kernel, by decide +kernel, by decide +kernel⟩, wd_1626, wd_102, wd_1625, wd_65⟩
def f_M_leaderLoads_L21 (v : T_M) (r1 : Int32) (k21_64 : Int32 → Option (Int32 × T_M)) : Nat → Int32 → Int32 → Option (Int32 × T_M)
  | 0, _, _ => none
  | n21 + 1, x5, x6 =>
    (if ((M_s (M_rn v)) (112 : Int32).toNatClampNeg) ≤ x6 then (k21_64 x5) else (if ix ((114 : Int32) + x6) 314 then (if ((M_s (M_rn v)) (((114 : Int32) + x6)).toNatClampNeg) = r1 then (if ix ((122 : Int32) + x6) 314 then (nm ((M_s (M_rn v)) (((122 : Int32) + x6)).toNatClampNeg) fun (x13 : Int32) => (nm (x6 + (1 : Int32)) fun (x14 : Int32) => (f_M_leaderLoads_L21 v r1 k21_64 n21 x13 x14))) else none) else (nm (x6 + (1 : Int32)) fun (x11 : Int32) => (f_M_leaderLoads_L21 v r1 k21_64 n21 x5 x11))) else none))
def f_M_leaderLoads (v : T_M) (a1 : Int32) : Option (Int32 × T_M) :=
  (bd (f_M_addressOf v (0 : Int32) a1) fun (r1 : Int32) => (if ix ((146 : Int32) + r1) 314 then (nm ((M_s (M_rn v)) (((146 : Int32) + r1)).toNatClampNeg) fun (x4 : Int32) => (f_M_leaderLoads_L21 v r1 (fun (x7 : Int32) => (if ix ((87 : Int32) + ((M_s (M_rn v)) (86 : Int32).toNatClampNeg)) 314 then (nm (upd (M_s (M_rn v)) (((87 : Int32) + ((M_s (M_rn v)) (86 : Int32).toNatClampNeg))).toNatClampNeg r1) fun (f16 : Nat → Int32) => (if ix ((95 : Int32) + (f16 (86 : Int32).toNatClampNeg)) 314 then (nm (upd f16 (((95 : Int32) + (f16 (86 : Int32).toNatClampNeg))).toNatClampNeg x7) fun (f18 : Nat → Int32) => (nm ((f18 (86 : Int32).toNatClampNeg) + (1 : Int32)) fun (x19 : Int32) => (nm (upd f18 (86 : Int32).toNatClampNeg x19) fun (f20 : Nat → Int32) => (if ix a1 80 then (if ix ((4 : Int32) + ((M_codeA (M_cd v)) a1.toNatClampNeg)) 314 then (nm (upd f20 (((4 : Int32) + ((M_codeA (M_cd v)) a1.toNatClampNeg))).toNatClampNeg x7) fun (f23 : Nat → Int32) => (some ((0 : Int32), ((M_tp v), (M_rd v), (M_lf v), (M_cd v), (f23, (M_spanNow (M_rn v)), (M_sizeNow (M_rn v)), (M_placeThen (M_rn v))), (M_ex v), (M_im v), (M_al v), (M_thrown v))))) else none) else none)))) else none)) else none)) LF x4 (0 : Int32))) else none))
abbrev rm_M_leaderLoads : Room := { frames := 1, cells := 0, slots := 0, locals := 22 }
set_option maxRecDepth 100000 in
set_option maxHeartbeats 4000000 in
theorem m_M_leaderLoads (l : Launch) (D : va_G) (K : Nat → ClassId) (q : Nat → Nat) (v : T_M) (a1 : Int32) {r_ : Int32} {o_v : T_M} (hf : f_M_leaderLoads v a1 = some (r_, o_v)) : MI l yX10_leaderLoads cX10_leaderLoads 5 (some .int) rm_M_leaderLoads D K [.ref (q 0), .int a1] (cl_M K q v) r_ (cl_M K q o_v) := by
  refine MI_of (loc0 := [(0, .ref (q 0)), (1, .int a1)]) (by decide +kernel) rfl (Nat.le_of_ble_eq_true rfl) ?_
  intro p e s m args below meth c A cx
  unfold f_M_leaderLoads at hf
  refine r_ws (ws' := [((q 0), ob 9 [.int (M_thrown v), .ref (q 1), .int (M_taped (M_tp v)), .ref (q 2), .ref (q 3), .ref (q 4), .ref (q 5), .ref (q 6), .ref (q 7), .ref (q 8), .ref (q 9), .ref (q 10), .ref (q 11), .ref (q 12), .ref (q 13), .ref (q 14), .int (M_lines (M_rd v)), .int (M_size (M_rd v)), .int (M_at (M_rd v)), .int (M_place (M_rd v)), .int (M_sort (M_rd v)), .int (M_value (M_rd v)), .int (M_fault (M_rd v)), .int (M_faultPlace (M_rd v)), .int (M_lastFault (M_lf v)), .int (M_lastPlace (M_lf v)), .ref (q 15), .ref (q 16), .ref (q 17), .ref (q 18), .int (M_hasImage (M_im v)), .int (M_spanNow (M_rn v)), .ref (q 19), .int (M_placeThen (M_rn v)), .int (M_alonePlace (M_al v)), .int (M_aloneSteps (M_al v)), .int (M_aloneOut (M_al v)), .ref (q 20), .ref (q 21), .ref (q 22), .ref (q 23), .int (M_shotAlarm (M_ex v)), .int (M_drawn (M_ex v))]), ((q 1), aI K 700 (M_tape (M_tp v))), ((q 2), aI K 20 (M_number (M_cd v))), ((q 3), aZ K 5 (M_isTold (M_rd v))), ((q 4), aI K 80 (M_codeSort (M_cd v))), ((q 5), aI K 80 (M_codeA (M_cd v))), ((q 6), aI K 80 (M_codeB (M_cd v))), ((q 7), aI K 80 (M_codeC (M_cd v))), ((q 8), aI K 80 (M_codeName (M_cd v))), ((q 9), aI K 80 (M_codePlace (M_cd v))), ((q 10), aI K 80 (M_codeTo (M_cd v))), ((q 11), aI K 280 (M_labelName (M_cd v))), ((q 12), aI K 280 (M_labelAt (M_cd v))), ((q 13), aI K 64 (M_data (M_cd v))), ((q 14), aZ K 32 (M_hasData (M_rd v))), ((q 15), aI K 314 (M_s (M_rn v))), ((q 16), aI K 314 (M_aside (M_ex v))), ((q 17), aI K 314 (M_further (M_ex v))), ((q 18), aI K 314 (M_image (M_im v))), ((q 19), aI K 3 (M_sizeNow (M_rn v))), ((q 20), aI K 8 (M_aloneRegister (M_al v))), ((q 21), aI K 4 (M_aloneReal (M_al v))), ((q 22), aI K 32 (M_aloneMemory (M_al v))), ((q 23), aI K 999 (M_aloneOutput (M_al v)))]) rfl ?_
  refine r_aload_n (pc := 0) cx dX10_leaderLoads_0 0 rfl ?_
  refine r_iconst (pc := 1) cx dX10_leaderLoads_1 ic_0 ?_
  refine r_iload_n (pc := 2) cx dX10_leaderLoads_2 1 rfl ?_
  obtain ⟨r1, hc2, hf⟩ := bd_of hf
  refine r_Vi (pc := 3) (ws' := [((q 0), ob 9 [.int (M_thrown v), .ref (q 1), .int (M_taped (M_tp v)), .ref (q 2), .ref (q 3), .ref (q 4), .ref (q 5), .ref (q 6), .ref (q 7), .ref (q 8), .ref (q 9), .ref (q 10), .ref (q 11), .ref (q 12), .ref (q 13), .ref (q 14), .int (M_lines (M_rd v)), .int (M_size (M_rd v)), .int (M_at (M_rd v)), .int (M_place (M_rd v)), .int (M_sort (M_rd v)), .int (M_value (M_rd v)), .int (M_fault (M_rd v)), .int (M_faultPlace (M_rd v)), .int (M_lastFault (M_lf v)), .int (M_lastPlace (M_lf v)), .ref (q 15), .ref (q 16), .ref (q 17), .ref (q 18), .int (M_hasImage (M_im v)), .int (M_spanNow (M_rn v)), .ref (q 19), .int (M_placeThen (M_rn v)), .int (M_alonePlace (M_al v)), .int (M_aloneSteps (M_al v)), .int (M_aloneOut (M_al v)), .ref (q 20), .ref (q 21), .ref (q 22), .ref (q 23), .int (M_shotAlarm (M_ex v)), .int (M_drawn (M_ex v))]), ((q 1), aI K 700 (M_tape (M_tp v))), ((q 2), aI K 20 (M_number (M_cd v))), ((q 3), aZ K 5 (M_isTold (M_rd v))), ((q 4), aI K 80 (M_codeSort (M_cd v))), ((q 5), aI K 80 (M_codeA (M_cd v))), ((q 6), aI K 80 (M_codeB (M_cd v))), ((q 7), aI K 80 (M_codeC (M_cd v))), ((q 8), aI K 80 (M_codeName (M_cd v))), ((q 9), aI K 80 (M_codePlace (M_cd v))), ((q 10), aI K 80 (M_codeTo (M_cd v))), ((q 11), aI K 280 (M_labelName (M_cd v))), ((q 12), aI K 280 (M_labelAt (M_cd v))), ((q 13), aI K 64 (M_data (M_cd v))), ((q 14), aZ K 32 (M_hasData (M_rd v))), ((q 15), aI K 314 (M_s (M_rn v))), ((q 16), aI K 314 (M_aside (M_ex v))), ((q 17), aI K 314 (M_further (M_ex v))), ((q 18), aI K 314 (M_image (M_im v))), ((q 19), aI K 3 (M_sizeNow (M_rn v))), ((q 20), aI K 8 (M_aloneRegister (M_al v))), ((q 21), aI K 4 (M_aloneReal (M_al v))), ((q 22), aI K 32 (M_aloneMemory (M_al v))), ((q 23), aI K 999 (M_aloneOutput (M_al v)))]) cx [.int (0 : Int32), .int a1] [] [0, 1, 2, 3, 4, 5, 6, 7, 8, 9, 10, 11, 12, 13, 14, 15, 16, 17, 18, 19, 20, 21, 22, 23] (m_M_addressOf l D K q v (0 : Int32) a1 hc2) yv_X10_addressOf wd_1611 ⟨rfl, rfl⟩ (by decide) rfl rfl rfl (by decide) 0 rfl rfl rfl (Nat.le_of_ble_eq_true rfl) dX10_leaderLoads_3 ?_
  refine r_istore_n (pc := 6) (loc' := [(2, .int r1), (0, .ref (q 0)), (1, .int a1)]) cx dX10_leaderLoads_6 rfl (by decide) rfl ?_
  refine r_aload_n (pc := 7) cx dX10_leaderLoads_7 1 rfl ?_
  refine r_get (pc := 8) cx cf_X10 0 26 rfl (by decide) rfl wd_1342 dX10_leaderLoads_8 ?_
  refine r_sipush (pc := 11) cx dX10_leaderLoads_11 sp_146 ?_
  refine r_iload_n (pc := 14) cx dX10_leaderLoads_14 0 rfl ?_
  refine r_iadd (pc := 15) cx dX10_leaderLoads_15 ?_
  obtain ⟨h3, hf⟩ := chk_of hf
  refine r_iald (pc := 16) cx 15 rfl h3 dX10_leaderLoads_16 ?_
  obtain ⟨x4, ex4, hf⟩ := nm_of hf
  refine r_nm ex4 ?_
  refine r_istore_n (pc := 17) (loc' := [(3, .int x4), (2, .int r1), (0, .ref (q 0)), (1, .int a1)]) cx dX10_leaderLoads_17 rfl (by decide) rfl ?_
  refine r_iconst (pc := 18) cx dX10_leaderLoads_18 ic_0 ?_
  refine r_istore (pc := 19) (loc' := [(4, .int (0 : Int32)), (3, .int x4), (2, .int r1), (0, .ref (q 0)), (1, .int a1)]) cx dX10_leaderLoads_19 (by decide) rfl ?_
  have hL21 : ∀ (k21_64 : Int32 → Option (Int32 × T_M)), (∀ (x7 : Int32), k21_64 x7 = some (r_, o_v) → WW p l e rm_M_leaderLoads s m args below meth c D A 5 0 0 (MQ below (QI D K A r_ (cl_M K q o_v)) args s 0 0 A) ([((q 0), ob 9 [.int (M_thrown v), .ref (q 1), .int (M_taped (M_tp v)), .ref (q 2), .ref (q 3), .ref (q 4), .ref (q 5), .ref (q 6), .ref (q 7), .ref (q 8), .ref (q 9), .ref (q 10), .ref (q 11), .ref (q 12), .ref (q 13), .ref (q 14), .int (M_lines (M_rd v)), .int (M_size (M_rd v)), .int (M_at (M_rd v)), .int (M_place (M_rd v)), .int (M_sort (M_rd v)), .int (M_value (M_rd v)), .int (M_fault (M_rd v)), .int (M_faultPlace (M_rd v)), .int (M_lastFault (M_lf v)), .int (M_lastPlace (M_lf v)), .ref (q 15), .ref (q 16), .ref (q 17), .ref (q 18), .int (M_hasImage (M_im v)), .int (M_spanNow (M_rn v)), .ref (q 19), .int (M_placeThen (M_rn v)), .int (M_alonePlace (M_al v)), .int (M_aloneSteps (M_al v)), .int (M_aloneOut (M_al v)), .ref (q 20), .ref (q 21), .ref (q 22), .ref (q 23), .int (M_shotAlarm (M_ex v)), .int (M_drawn (M_ex v))]), ((q 1), aI K 700 (M_tape (M_tp v))), ((q 2), aI K 20 (M_number (M_cd v))), ((q 3), aZ K 5 (M_isTold (M_rd v))), ((q 4), aI K 80 (M_codeSort (M_cd v))), ((q 5), aI K 80 (M_codeA (M_cd v))), ((q 6), aI K 80 (M_codeB (M_cd v))), ((q 7), aI K 80 (M_codeC (M_cd v))), ((q 8), aI K 80 (M_codeName (M_cd v))), ((q 9), aI K 80 (M_codePlace (M_cd v))), ((q 10), aI K 80 (M_codeTo (M_cd v))), ((q 11), aI K 280 (M_labelName (M_cd v))), ((q 12), aI K 280 (M_labelAt (M_cd v))), ((q 13), aI K 64 (M_data (M_cd v))), ((q 14), aZ K 32 (M_hasData (M_rd v))), ((q 15), aI K 314 (M_s (M_rn v))), ((q 16), aI K 314 (M_aside (M_ex v))), ((q 17), aI K 314 (M_further (M_ex v))), ((q 18), aI K 314 (M_image (M_im v))), ((q 19), aI K 3 (M_sizeNow (M_rn v))), ((q 20), aI K 8 (M_aloneRegister (M_al v))), ((q 21), aI K 4 (M_aloneReal (M_al v))), ((q 22), aI K 32 (M_aloneMemory (M_al v))), ((q 23), aI K 999 (M_aloneOutput (M_al v)))]) ([(0, .ref (q 0)), (1, .int a1), (2, .int r1), (3, .int x7)]) ([]) 64) → ∀ (n21 : Nat) (x5 : Int32) (x6 : Int32), f_M_leaderLoads_L21 v r1 k21_64 n21 x5 x6 = some (r_, o_v) → WW p l e rm_M_leaderLoads s m args below meth c D A 5 0 0 (MQ below (QI D K A r_ (cl_M K q o_v)) args s 0 0 A) ([((q 0), ob 9 [.int (M_thrown v), .ref (q 1), .int (M_taped (M_tp v)), .ref (q 2), .ref (q 3), .ref (q 4), .ref (q 5), .ref (q 6), .ref (q 7), .ref (q 8), .ref (q 9), .ref (q 10), .ref (q 11), .ref (q 12), .ref (q 13), .ref (q 14), .int (M_lines (M_rd v)), .int (M_size (M_rd v)), .int (M_at (M_rd v)), .int (M_place (M_rd v)), .int (M_sort (M_rd v)), .int (M_value (M_rd v)), .int (M_fault (M_rd v)), .int (M_faultPlace (M_rd v)), .int (M_lastFault (M_lf v)), .int (M_lastPlace (M_lf v)), .ref (q 15), .ref (q 16), .ref (q 17), .ref (q 18), .int (M_hasImage (M_im v)), .int (M_spanNow (M_rn v)), .ref (q 19), .int (M_placeThen (M_rn v)), .int (M_alonePlace (M_al v)), .int (M_aloneSteps (M_al v)), .int (M_aloneOut (M_al v)), .ref (q 20), .ref (q 21), .ref (q 22), .ref (q 23), .int (M_shotAlarm (M_ex v)), .int (M_drawn (M_ex v))]), ((q 1), aI K 700 (M_tape (M_tp v))), ((q 2), aI K 20 (M_number (M_cd v))), ((q 3), aZ K 5 (M_isTold (M_rd v))), ((q 4), aI K 80 (M_codeSort (M_cd v))), ((q 5), aI K 80 (M_codeA (M_cd v))), ((q 6), aI K 80 (M_codeB (M_cd v))), ((q 7), aI K 80 (M_codeC (M_cd v))), ((q 8), aI K 80 (M_codeName (M_cd v))), ((q 9), aI K 80 (M_codePlace (M_cd v))), ((q 10), aI K 80 (M_codeTo (M_cd v))), ((q 11), aI K 280 (M_labelName (M_cd v))), ((q 12), aI K 280 (M_labelAt (M_cd v))), ((q 13), aI K 64 (M_data (M_cd v))), ((q 14), aZ K 32 (M_hasData (M_rd v))), ((q 15), aI K 314 (M_s (M_rn v))), ((q 16), aI K 314 (M_aside (M_ex v))), ((q 17), aI K 314 (M_further (M_ex v))), ((q 18), aI K 314 (M_image (M_im v))), ((q 19), aI K 3 (M_sizeNow (M_rn v))), ((q 20), aI K 8 (M_aloneRegister (M_al v))), ((q 21), aI K 4 (M_aloneReal (M_al v))), ((q 22), aI K 32 (M_aloneMemory (M_al v))), ((q 23), aI K 999 (M_aloneOutput (M_al v)))]) ([(0, .ref (q 0)), (1, .int a1), (2, .int r1), (3, .int x5), (4, .int x6)]) ([]) 21 := by
    intro k21_64 hk21_64 n21
    induction n21 with
    | zero => intro x5 x6 hf; exact (nomatch (show (none : Option (Int32 × T_M)) = some _ from hf))
    | succ n21 ih21 =>
      intro x5 x6 hf
      rw [f_M_leaderLoads_L21] at hf
      refine r_iload (pc := 21) cx dX10_leaderLoads_21 4 rfl ?_
      refine r_aload_n (pc := 23) cx dX10_leaderLoads_23 0 rfl ?_
      refine r_get (pc := 24) cx cf_X10 0 26 rfl (by decide) rfl wd_1342 dX10_leaderLoads_24 ?_
      refine r_bipush (pc := 27) cx dX10_leaderLoads_27 bp_112 ?_
      refine r_iald (pc := 29) cx 15 rfl (by decide) dX10_leaderLoads_29 ?_
      refine r_icmp_ge (pc := 30) (tgt := 64) cx dX10_leaderLoads_30 (by decide) (fun h8 => ?_) (fun h8 => ?_)
      · have hf := ifp h8 hf
        refine r_loc (loc' := [(0, .ref (q 0)), (1, .int a1), (2, .int r1), (3, .int x5)]) [0, 1, 2, 3] rfl ?_
        exact hk21_64 _ hf
      · have hf := ifn h8 hf
        refine r_aload_n (pc := 33) cx dX10_leaderLoads_33 0 rfl ?_
        refine r_get (pc := 34) cx cf_X10 0 26 rfl (by decide) rfl wd_1342 dX10_leaderLoads_34 ?_
        refine r_bipush (pc := 37) cx dX10_leaderLoads_37 bp_114 ?_
        refine r_iload (pc := 39) cx dX10_leaderLoads_39 4 rfl ?_
        refine r_iadd (pc := 41) cx dX10_leaderLoads_41 ?_
        obtain ⟨h9, hf⟩ := chk_of hf
        refine r_iald (pc := 42) cx 15 rfl h9 dX10_leaderLoads_42 ?_
        refine r_iload_n (pc := 43) cx dX10_leaderLoads_43 2 rfl ?_
        refine r_icmp_ne (pc := 44) (tgt := 58) cx dX10_leaderLoads_44 (by decide) (fun h10 => ?_) (fun h10 => ?_)
        · have hf := ifn h10 hf
          obtain ⟨x11, ex11, hf⟩ := nm_of hf
          refine r_iinc (pc := 58) (loc' := [(4, .int x11), (0, .ref (q 0)), (1, .int a1), (2, .int r1), (3, .int x5)]) (v := x11) cx dX10_leaderLoads_58 4 rfl ((congrArg (fun z => x6 + z) ic_1).trans ex11.symm) (by decide) rfl ?_
          refine r_goto (pc := 61) (tgt := 21) cx dX10_leaderLoads_61 (by decide) ?_
          refine r_loc (loc' := [(0, .ref (q 0)), (1, .int a1), (2, .int r1), (3, .int x5), (4, .int x11)]) [1, 2, 3, 4, 0] rfl ?_
          exact ih21 _ _ hf
        · have hf := ifp h10 hf
          refine r_aload_n (pc := 47) cx dX10_leaderLoads_47 0 rfl ?_
          refine r_get (pc := 48) cx cf_X10 0 26 rfl (by decide) rfl wd_1342 dX10_leaderLoads_48 ?_
          refine r_bipush (pc := 51) cx dX10_leaderLoads_51 bp_122 ?_
          refine r_iload (pc := 53) cx dX10_leaderLoads_53 4 rfl ?_
          refine r_iadd (pc := 55) cx dX10_leaderLoads_55 ?_
          obtain ⟨h12, hf⟩ := chk_of hf
          refine r_iald (pc := 56) cx 15 rfl h12 dX10_leaderLoads_56 ?_
          obtain ⟨x13, ex13, hf⟩ := nm_of hf
          refine r_nm ex13 ?_
          refine r_istore_n (pc := 57) (loc' := [(3, .int x13), (0, .ref (q 0)), (1, .int a1), (2, .int r1), (4, .int x6)]) cx dX10_leaderLoads_57 rfl (by decide) rfl ?_
          obtain ⟨x14, ex14, hf⟩ := nm_of hf
          refine r_iinc (pc := 58) (loc' := [(4, .int x14), (3, .int x13), (0, .ref (q 0)), (1, .int a1), (2, .int r1)]) (v := x14) cx dX10_leaderLoads_58 4 rfl ((congrArg (fun z => x6 + z) ic_1).trans ex14.symm) (by decide) rfl ?_
          refine r_goto (pc := 61) (tgt := 21) cx dX10_leaderLoads_61 (by decide) ?_
          refine r_loc (loc' := [(0, .ref (q 0)), (1, .int a1), (2, .int r1), (3, .int x13), (4, .int x14)]) [2, 3, 4, 1, 0] rfl ?_
          exact ih21 _ _ hf
  refine r_loc (loc' := [(0, .ref (q 0)), (1, .int a1), (2, .int r1), (3, .int x4), (4, .int (0 : Int32))]) [3, 4, 2, 1, 0] rfl ?_
  refine hL21 _ (fun x7 hf => ?_) _ _ _ hf
  refine r_aload_n (pc := 64) cx dX10_leaderLoads_64 0 rfl ?_
  refine r_get (pc := 65) cx cf_X10 0 26 rfl (by decide) rfl wd_1342 dX10_leaderLoads_65 ?_
  refine r_bipush (pc := 68) cx dX10_leaderLoads_68 bp_87 ?_
  refine r_aload_n (pc := 70) cx dX10_leaderLoads_70 0 rfl ?_
  refine r_get (pc := 71) cx cf_X10 0 26 rfl (by decide) rfl wd_1342 dX10_leaderLoads_71 ?_
  refine r_bipush (pc := 74) cx dX10_leaderLoads_74 bp_86 ?_
  refine r_iald (pc := 76) cx 15 rfl (by decide) dX10_leaderLoads_76 ?_
  refine r_iadd (pc := 77) cx dX10_leaderLoads_77 ?_
  refine r_iload_n (pc := 78) cx dX10_leaderLoads_78 2 rfl ?_
  obtain ⟨h15, hf⟩ := chk_of hf
  obtain ⟨f16, ef16, hf⟩ := nm_of hf
  refine r_iast (pc := 79) (ws' := [((q 0), ob 9 [.int (M_thrown v), .ref (q 1), .int (M_taped (M_tp v)), .ref (q 2), .ref (q 3), .ref (q 4), .ref (q 5), .ref (q 6), .ref (q 7), .ref (q 8), .ref (q 9), .ref (q 10), .ref (q 11), .ref (q 12), .ref (q 13), .ref (q 14), .int (M_lines (M_rd v)), .int (M_size (M_rd v)), .int (M_at (M_rd v)), .int (M_place (M_rd v)), .int (M_sort (M_rd v)), .int (M_value (M_rd v)), .int (M_fault (M_rd v)), .int (M_faultPlace (M_rd v)), .int (M_lastFault (M_lf v)), .int (M_lastPlace (M_lf v)), .ref (q 15), .ref (q 16), .ref (q 17), .ref (q 18), .int (M_hasImage (M_im v)), .int (M_spanNow (M_rn v)), .ref (q 19), .int (M_placeThen (M_rn v)), .int (M_alonePlace (M_al v)), .int (M_aloneSteps (M_al v)), .int (M_aloneOut (M_al v)), .ref (q 20), .ref (q 21), .ref (q 22), .ref (q 23), .int (M_shotAlarm (M_ex v)), .int (M_drawn (M_ex v))]), ((q 1), aI K 700 (M_tape (M_tp v))), ((q 2), aI K 20 (M_number (M_cd v))), ((q 3), aZ K 5 (M_isTold (M_rd v))), ((q 4), aI K 80 (M_codeSort (M_cd v))), ((q 5), aI K 80 (M_codeA (M_cd v))), ((q 6), aI K 80 (M_codeB (M_cd v))), ((q 7), aI K 80 (M_codeC (M_cd v))), ((q 8), aI K 80 (M_codeName (M_cd v))), ((q 9), aI K 80 (M_codePlace (M_cd v))), ((q 10), aI K 80 (M_codeTo (M_cd v))), ((q 11), aI K 280 (M_labelName (M_cd v))), ((q 12), aI K 280 (M_labelAt (M_cd v))), ((q 13), aI K 64 (M_data (M_cd v))), ((q 14), aZ K 32 (M_hasData (M_rd v))), ((q 15), aI K 314 f16), ((q 16), aI K 314 (M_aside (M_ex v))), ((q 17), aI K 314 (M_further (M_ex v))), ((q 18), aI K 314 (M_image (M_im v))), ((q 19), aI K 3 (M_sizeNow (M_rn v))), ((q 20), aI K 8 (M_aloneRegister (M_al v))), ((q 21), aI K 4 (M_aloneReal (M_al v))), ((q 22), aI K 32 (M_aloneMemory (M_al v))), ((q 23), aI K 999 (M_aloneOutput (M_al v)))]) cx 15 rfl h15 dX10_leaderLoads_79 ef16 rfl ?_
  refine r_aload_n (pc := 80) cx dX10_leaderLoads_80 0 rfl ?_
  refine r_get (pc := 81) cx cf_X10 0 26 rfl (by decide) rfl wd_1342 dX10_leaderLoads_81 ?_
  refine r_bipush (pc := 84) cx dX10_leaderLoads_84 bp_95 ?_
  refine r_aload_n (pc := 86) cx dX10_leaderLoads_86 0 rfl ?_
  refine r_get (pc := 87) cx cf_X10 0 26 rfl (by decide) rfl wd_1342 dX10_leaderLoads_87 ?_
  refine r_bipush (pc := 90) cx dX10_leaderLoads_90 bp_86 ?_
  refine r_iald (pc := 92) cx 15 rfl (by decide) dX10_leaderLoads_92 ?_
  refine r_iadd (pc := 93) cx dX10_leaderLoads_93 ?_
  refine r_iload_n (pc := 94) cx dX10_leaderLoads_94 3 rfl ?_
  obtain ⟨h17, hf⟩ := chk_of hf
  obtain ⟨f18, ef18, hf⟩ := nm_of hf
  refine r_iast (pc := 95) (ws' := [((q 0), ob 9 [.int (M_thrown v), .ref (q 1), .int (M_taped (M_tp v)), .ref (q 2), .ref (q 3), .ref (q 4), .ref (q 5), .ref (q 6), .ref (q 7), .ref (q 8), .ref (q 9), .ref (q 10), .ref (q 11), .ref (q 12), .ref (q 13), .ref (q 14), .int (M_lines (M_rd v)), .int (M_size (M_rd v)), .int (M_at (M_rd v)), .int (M_place (M_rd v)), .int (M_sort (M_rd v)), .int (M_value (M_rd v)), .int (M_fault (M_rd v)), .int (M_faultPlace (M_rd v)), .int (M_lastFault (M_lf v)), .int (M_lastPlace (M_lf v)), .ref (q 15), .ref (q 16), .ref (q 17), .ref (q 18), .int (M_hasImage (M_im v)), .int (M_spanNow (M_rn v)), .ref (q 19), .int (M_placeThen (M_rn v)), .int (M_alonePlace (M_al v)), .int (M_aloneSteps (M_al v)), .int (M_aloneOut (M_al v)), .ref (q 20), .ref (q 21), .ref (q 22), .ref (q 23), .int (M_shotAlarm (M_ex v)), .int (M_drawn (M_ex v))]), ((q 1), aI K 700 (M_tape (M_tp v))), ((q 2), aI K 20 (M_number (M_cd v))), ((q 3), aZ K 5 (M_isTold (M_rd v))), ((q 4), aI K 80 (M_codeSort (M_cd v))), ((q 5), aI K 80 (M_codeA (M_cd v))), ((q 6), aI K 80 (M_codeB (M_cd v))), ((q 7), aI K 80 (M_codeC (M_cd v))), ((q 8), aI K 80 (M_codeName (M_cd v))), ((q 9), aI K 80 (M_codePlace (M_cd v))), ((q 10), aI K 80 (M_codeTo (M_cd v))), ((q 11), aI K 280 (M_labelName (M_cd v))), ((q 12), aI K 280 (M_labelAt (M_cd v))), ((q 13), aI K 64 (M_data (M_cd v))), ((q 14), aZ K 32 (M_hasData (M_rd v))), ((q 15), aI K 314 f18), ((q 16), aI K 314 (M_aside (M_ex v))), ((q 17), aI K 314 (M_further (M_ex v))), ((q 18), aI K 314 (M_image (M_im v))), ((q 19), aI K 3 (M_sizeNow (M_rn v))), ((q 20), aI K 8 (M_aloneRegister (M_al v))), ((q 21), aI K 4 (M_aloneReal (M_al v))), ((q 22), aI K 32 (M_aloneMemory (M_al v))), ((q 23), aI K 999 (M_aloneOutput (M_al v)))]) cx 15 rfl h17 dX10_leaderLoads_95 ef18 rfl ?_
  refine r_aload_n (pc := 96) cx dX10_leaderLoads_96 0 rfl ?_
  refine r_get (pc := 97) cx cf_X10 0 26 rfl (by decide) rfl wd_1342 dX10_leaderLoads_97 ?_
  refine r_bipush (pc := 100) cx dX10_leaderLoads_100 bp_86 ?_
  refine r_dup2 (pc := 102) cx dX10_leaderLoads_102 rfl rfl ?_
  refine r_iald (pc := 103) cx 15 rfl (by decide) dX10_leaderLoads_103 ?_
  refine r_iconst (pc := 104) cx dX10_leaderLoads_104 ic_1 ?_
  refine r_iadd (pc := 105) cx dX10_leaderLoads_105 ?_
  obtain ⟨x19, ex19, hf⟩ := nm_of hf
  refine r_nm ex19 ?_
  obtain ⟨f20, ef20, hf⟩ := nm_of hf
  refine r_iast (pc := 106) (ws' := [((q 0), ob 9 [.int (M_thrown v), .ref (q 1), .int (M_taped (M_tp v)), .ref (q 2), .ref (q 3), .ref (q 4), .ref (q 5), .ref (q 6), .ref (q 7), .ref (q 8), .ref (q 9), .ref (q 10), .ref (q 11), .ref (q 12), .ref (q 13), .ref (q 14), .int (M_lines (M_rd v)), .int (M_size (M_rd v)), .int (M_at (M_rd v)), .int (M_place (M_rd v)), .int (M_sort (M_rd v)), .int (M_value (M_rd v)), .int (M_fault (M_rd v)), .int (M_faultPlace (M_rd v)), .int (M_lastFault (M_lf v)), .int (M_lastPlace (M_lf v)), .ref (q 15), .ref (q 16), .ref (q 17), .ref (q 18), .int (M_hasImage (M_im v)), .int (M_spanNow (M_rn v)), .ref (q 19), .int (M_placeThen (M_rn v)), .int (M_alonePlace (M_al v)), .int (M_aloneSteps (M_al v)), .int (M_aloneOut (M_al v)), .ref (q 20), .ref (q 21), .ref (q 22), .ref (q 23), .int (M_shotAlarm (M_ex v)), .int (M_drawn (M_ex v))]), ((q 1), aI K 700 (M_tape (M_tp v))), ((q 2), aI K 20 (M_number (M_cd v))), ((q 3), aZ K 5 (M_isTold (M_rd v))), ((q 4), aI K 80 (M_codeSort (M_cd v))), ((q 5), aI K 80 (M_codeA (M_cd v))), ((q 6), aI K 80 (M_codeB (M_cd v))), ((q 7), aI K 80 (M_codeC (M_cd v))), ((q 8), aI K 80 (M_codeName (M_cd v))), ((q 9), aI K 80 (M_codePlace (M_cd v))), ((q 10), aI K 80 (M_codeTo (M_cd v))), ((q 11), aI K 280 (M_labelName (M_cd v))), ((q 12), aI K 280 (M_labelAt (M_cd v))), ((q 13), aI K 64 (M_data (M_cd v))), ((q 14), aZ K 32 (M_hasData (M_rd v))), ((q 15), aI K 314 f20), ((q 16), aI K 314 (M_aside (M_ex v))), ((q 17), aI K 314 (M_further (M_ex v))), ((q 18), aI K 314 (M_image (M_im v))), ((q 19), aI K 3 (M_sizeNow (M_rn v))), ((q 20), aI K 8 (M_aloneRegister (M_al v))), ((q 21), aI K 4 (M_aloneReal (M_al v))), ((q 22), aI K 32 (M_aloneMemory (M_al v))), ((q 23), aI K 999 (M_aloneOutput (M_al v)))]) cx 15 rfl (by decide) dX10_leaderLoads_106 ef20 rfl ?_
  refine r_aload_n (pc := 107) cx dX10_leaderLoads_107 0 rfl ?_
  refine r_get (pc := 108) cx cf_X10 0 26 rfl (by decide) rfl wd_1342 dX10_leaderLoads_108 ?_
  refine r_iconst (pc := 111) cx dX10_leaderLoads_111 ic_4 ?_
  refine r_aload_n (pc := 112) cx dX10_leaderLoads_112 0 rfl ?_
  refine r_get (pc := 113) cx cf_X10 0 6 rfl (by decide) rfl wd_1322 dX10_leaderLoads_113 ?_
  refine r_iload_n (pc := 116) cx dX10_leaderLoads_116 1 rfl ?_
  obtain ⟨h21, hf⟩ := chk_of hf
  refine r_iald (pc := 117) cx 5 rfl h21 dX10_leaderLoads_117 ?_
  refine r_iadd (pc := 118) cx dX10_leaderLoads_118 ?_
  refine r_iload_n (pc := 119) cx dX10_leaderLoads_119 3 rfl ?_
  obtain ⟨h22, hf⟩ := chk_of hf
  obtain ⟨f23, ef23, hf⟩ := nm_of hf
  refine r_iast (pc := 120) (ws' := [((q 0), ob 9 [.int (M_thrown v), .ref (q 1), .int (M_taped (M_tp v)), .ref (q 2), .ref (q 3), .ref (q 4), .ref (q 5), .ref (q 6), .ref (q 7), .ref (q 8), .ref (q 9), .ref (q 10), .ref (q 11), .ref (q 12), .ref (q 13), .ref (q 14), .int (M_lines (M_rd v)), .int (M_size (M_rd v)), .int (M_at (M_rd v)), .int (M_place (M_rd v)), .int (M_sort (M_rd v)), .int (M_value (M_rd v)), .int (M_fault (M_rd v)), .int (M_faultPlace (M_rd v)), .int (M_lastFault (M_lf v)), .int (M_lastPlace (M_lf v)), .ref (q 15), .ref (q 16), .ref (q 17), .ref (q 18), .int (M_hasImage (M_im v)), .int (M_spanNow (M_rn v)), .ref (q 19), .int (M_placeThen (M_rn v)), .int (M_alonePlace (M_al v)), .int (M_aloneSteps (M_al v)), .int (M_aloneOut (M_al v)), .ref (q 20), .ref (q 21), .ref (q 22), .ref (q 23), .int (M_shotAlarm (M_ex v)), .int (M_drawn (M_ex v))]), ((q 1), aI K 700 (M_tape (M_tp v))), ((q 2), aI K 20 (M_number (M_cd v))), ((q 3), aZ K 5 (M_isTold (M_rd v))), ((q 4), aI K 80 (M_codeSort (M_cd v))), ((q 5), aI K 80 (M_codeA (M_cd v))), ((q 6), aI K 80 (M_codeB (M_cd v))), ((q 7), aI K 80 (M_codeC (M_cd v))), ((q 8), aI K 80 (M_codeName (M_cd v))), ((q 9), aI K 80 (M_codePlace (M_cd v))), ((q 10), aI K 80 (M_codeTo (M_cd v))), ((q 11), aI K 280 (M_labelName (M_cd v))), ((q 12), aI K 280 (M_labelAt (M_cd v))), ((q 13), aI K 64 (M_data (M_cd v))), ((q 14), aZ K 32 (M_hasData (M_rd v))), ((q 15), aI K 314 f23), ((q 16), aI K 314 (M_aside (M_ex v))), ((q 17), aI K 314 (M_further (M_ex v))), ((q 18), aI K 314 (M_image (M_im v))), ((q 19), aI K 3 (M_sizeNow (M_rn v))), ((q 20), aI K 8 (M_aloneRegister (M_al v))), ((q 21), aI K 4 (M_aloneReal (M_al v))), ((q 22), aI K 32 (M_aloneMemory (M_al v))), ((q 23), aI K 999 (M_aloneOutput (M_al v)))]) cx 15 rfl h22 dX10_leaderLoads_120 ef23 rfl ?_
  refine r_iconst (pc := 121) cx dX10_leaderLoads_121 ic_0 ?_
  cases hf
  exact r_iret (pc := 122) cx rfl rfl dX10_leaderLoads_122
theorem yv_X10_leaderLoads : YV yX10_leaderLoads cX10_leaderLoads 5 (some .int) 1 := ⟨⟨by decide +kernel, by decide +kernel, by decide +kernel⟩, wd_1610, wd_102, wd_1609, wd_61⟩
def f_M_trailerLoads_L19  (k19_76 : (Nat → Int32) → Option (Int32 × T_M)) : Nat → Int32 → (Nat → Int32) → Option (Int32 × T_M)
  | 0, _, _ => none
  | n19 + 1, x3, f4 =>
    (if (8 : Int32) ≤ x3 then (k19_76 f4) else (if ix ((87 : Int32) + x3) 314 then (nm (f4 (((87 : Int32) + x3)).toNatClampNeg) fun (x8 : Int32) => (if ix (((87 : Int32) + x3) - (1 : Int32)) 314 then (nm (upd f4 ((((87 : Int32) + x3) - (1 : Int32))).toNatClampNeg x8) fun (f10 : Nat → Int32) => (if ix ((95 : Int32) + x3) 314 then (nm (f10 (((95 : Int32) + x3)).toNatClampNeg) fun (x12 : Int32) => (if ix (((95 : Int32) + x3) - (1 : Int32)) 314 then (nm (upd f10 ((((95 : Int32) + x3) - (1 : Int32))).toNatClampNeg x12) fun (f14 : Nat → Int32) => (nm (x3 + (1 : Int32)) fun (x15 : Int32) => (f_M_trailerLoads_L19 k19_76 n19 x15 f14))) else none)) else none)) else none)) else none))
def f_M_trailerLoads (v : T_M) (a1 : Int32) : Option (Int32 × T_M) :=
  (nm ((M_s (M_rn v)) (87 : Int32).toNatClampNeg) fun (x1 : Int32) => (nm ((M_s (M_rn v)) (95 : Int32).toNatClampNeg) fun (x2 : Int32) => (f_M_trailerLoads_L19 (fun (f5 : (Nat → Int32)) => (nm ((f5 (86 : Int32).toNatClampNeg) - (1 : Int32)) fun (x16 : Int32) => (nm (upd f5 (86 : Int32).toNatClampNeg x16) fun (f17 : Nat → Int32) => (bd (f_M_addressOf ((M_tp v), (M_rd v), (M_lf v), (M_cd v), (f17, (M_spanNow (M_rn v)), (M_sizeNow (M_rn v)), (M_placeThen (M_rn v))), (M_ex v), (M_im v), (M_al v), (M_thrown v)) (1 : Int32) a1) fun (r18 : Int32) => (if x1 = r18 then (if ix a1 80 then (if ix ((12 : Int32) + ((M_codeA (M_cd v)) a1.toNatClampNeg)) 314 then (nm (upd f17 (((12 : Int32) + ((M_codeA (M_cd v)) a1.toNatClampNeg))).toNatClampNeg x2) fun (f23 : Nat → Int32) => (some ((0 : Int32), ((M_tp v), (M_rd v), (M_lf v), (M_cd v), (f23, (M_spanNow (M_rn v)), (M_sizeNow (M_rn v)), (M_placeThen (M_rn v))), (M_ex v), (M_im v), (M_al v), (M_thrown v))))) else none) else none) else (some ((1 : Int32), ((M_tp v), (M_rd v), (M_lf v), (M_cd v), (f17, (M_spanNow (M_rn v)), (M_sizeNow (M_rn v)), (M_placeThen (M_rn v))), (M_ex v), (M_im v), (M_al v), (M_thrown v))))))))) LF (1 : Int32) (M_s (M_rn v)))))
abbrev rm_M_trailerLoads : Room := { frames := 1, cells := 0, slots := 0, locals := 22 }
set_option maxRecDepth 100000 in
set_option maxHeartbeats 4000000 in
theorem m_M_trailerLoads (l : Launch) (D : va_G) (K : Nat → ClassId) (q : Nat → Nat) (v : T_M) (a1 : Int32) {r_ : Int32} {o_v : T_M} (hf : f_M_trailerLoads v a1 = some (r_, o_v)) : MI l yX10_trailerLoads cX10_trailerLoads 5 (some .int) rm_M_trailerLoads D K [.ref (q 0), .int a1] (cl_M K q v) r_ (cl_M K q o_v) := by
  refine MI_of (loc0 := [(0, .ref (q 0)), (1, .int a1)]) (by decide +kernel) rfl (Nat.le_of_ble_eq_true rfl) ?_
  intro p e s m args below meth c A cx
  unfold f_M_trailerLoads at hf
  refine r_ws (ws' := [((q 0), ob 9 [.int (M_thrown v), .ref (q 1), .int (M_taped (M_tp v)), .ref (q 2), .ref (q 3), .ref (q 4), .ref (q 5), .ref (q 6), .ref (q 7), .ref (q 8), .ref (q 9), .ref (q 10), .ref (q 11), .ref (q 12), .ref (q 13), .ref (q 14), .int (M_lines (M_rd v)), .int (M_size (M_rd v)), .int (M_at (M_rd v)), .int (M_place (M_rd v)), .int (M_sort (M_rd v)), .int (M_value (M_rd v)), .int (M_fault (M_rd v)), .int (M_faultPlace (M_rd v)), .int (M_lastFault (M_lf v)), .int (M_lastPlace (M_lf v)), .ref (q 15), .ref (q 16), .ref (q 17), .ref (q 18), .int (M_hasImage (M_im v)), .int (M_spanNow (M_rn v)), .ref (q 19), .int (M_placeThen (M_rn v)), .int (M_alonePlace (M_al v)), .int (M_aloneSteps (M_al v)), .int (M_aloneOut (M_al v)), .ref (q 20), .ref (q 21), .ref (q 22), .ref (q 23), .int (M_shotAlarm (M_ex v)), .int (M_drawn (M_ex v))]), ((q 1), aI K 700 (M_tape (M_tp v))), ((q 2), aI K 20 (M_number (M_cd v))), ((q 3), aZ K 5 (M_isTold (M_rd v))), ((q 4), aI K 80 (M_codeSort (M_cd v))), ((q 5), aI K 80 (M_codeA (M_cd v))), ((q 6), aI K 80 (M_codeB (M_cd v))), ((q 7), aI K 80 (M_codeC (M_cd v))), ((q 8), aI K 80 (M_codeName (M_cd v))), ((q 9), aI K 80 (M_codePlace (M_cd v))), ((q 10), aI K 80 (M_codeTo (M_cd v))), ((q 11), aI K 280 (M_labelName (M_cd v))), ((q 12), aI K 280 (M_labelAt (M_cd v))), ((q 13), aI K 64 (M_data (M_cd v))), ((q 14), aZ K 32 (M_hasData (M_rd v))), ((q 15), aI K 314 (M_s (M_rn v))), ((q 16), aI K 314 (M_aside (M_ex v))), ((q 17), aI K 314 (M_further (M_ex v))), ((q 18), aI K 314 (M_image (M_im v))), ((q 19), aI K 3 (M_sizeNow (M_rn v))), ((q 20), aI K 8 (M_aloneRegister (M_al v))), ((q 21), aI K 4 (M_aloneReal (M_al v))), ((q 22), aI K 32 (M_aloneMemory (M_al v))), ((q 23), aI K 999 (M_aloneOutput (M_al v)))]) rfl ?_
  refine r_aload_n (pc := 0) cx dX10_trailerLoads_0 0 rfl ?_
  refine r_get (pc := 1) cx cf_X10 0 26 rfl (by decide) rfl wd_1342 dX10_trailerLoads_1 ?_
  refine r_bipush (pc := 4) cx dX10_trailerLoads_4 bp_87 ?_
  refine r_iald (pc := 6) cx 15 rfl (by decide) dX10_trailerLoads_6 ?_
  obtain ⟨x1, ex1, hf⟩ := nm_of hf
  refine r_nm ex1 ?_
  refine r_istore_n (pc := 7) (loc' := [(2, .int x1), (0, .ref (q 0)), (1, .int a1)]) cx dX10_trailerLoads_7 rfl (by decide) rfl ?_
  refine r_aload_n (pc := 8) cx dX10_trailerLoads_8 1 rfl ?_
  refine r_get (pc := 9) cx cf_X10 0 26 rfl (by decide) rfl wd_1342 dX10_trailerLoads_9 ?_
  refine r_bipush (pc := 12) cx dX10_trailerLoads_12 bp_95 ?_
  refine r_iald (pc := 14) cx 15 rfl (by decide) dX10_trailerLoads_14 ?_
  obtain ⟨x2, ex2, hf⟩ := nm_of hf
  refine r_nm ex2 ?_
  refine r_istore_n (pc := 15) (loc' := [(3, .int x2), (2, .int x1), (0, .ref (q 0)), (1, .int a1)]) cx dX10_trailerLoads_15 rfl (by decide) rfl ?_
  refine r_iconst (pc := 16) cx dX10_trailerLoads_16 ic_1 ?_
  refine r_istore (pc := 17) (loc' := [(4, .int (1 : Int32)), (3, .int x2), (2, .int x1), (0, .ref (q 0)), (1, .int a1)]) cx dX10_trailerLoads_17 (by decide) rfl ?_
  have hL19 : ∀ (k19_76 : (Nat → Int32) → Option (Int32 × T_M)), (∀ (f5 : (Nat → Int32)), k19_76 f5 = some (r_, o_v) → WW p l e rm_M_trailerLoads s m args below meth c D A 5 0 0 (MQ below (QI D K A r_ (cl_M K q o_v)) args s 0 0 A) ([((q 0), ob 9 [.int (M_thrown v), .ref (q 1), .int (M_taped (M_tp v)), .ref (q 2), .ref (q 3), .ref (q 4), .ref (q 5), .ref (q 6), .ref (q 7), .ref (q 8), .ref (q 9), .ref (q 10), .ref (q 11), .ref (q 12), .ref (q 13), .ref (q 14), .int (M_lines (M_rd v)), .int (M_size (M_rd v)), .int (M_at (M_rd v)), .int (M_place (M_rd v)), .int (M_sort (M_rd v)), .int (M_value (M_rd v)), .int (M_fault (M_rd v)), .int (M_faultPlace (M_rd v)), .int (M_lastFault (M_lf v)), .int (M_lastPlace (M_lf v)), .ref (q 15), .ref (q 16), .ref (q 17), .ref (q 18), .int (M_hasImage (M_im v)), .int (M_spanNow (M_rn v)), .ref (q 19), .int (M_placeThen (M_rn v)), .int (M_alonePlace (M_al v)), .int (M_aloneSteps (M_al v)), .int (M_aloneOut (M_al v)), .ref (q 20), .ref (q 21), .ref (q 22), .ref (q 23), .int (M_shotAlarm (M_ex v)), .int (M_drawn (M_ex v))]), ((q 1), aI K 700 (M_tape (M_tp v))), ((q 2), aI K 20 (M_number (M_cd v))), ((q 3), aZ K 5 (M_isTold (M_rd v))), ((q 4), aI K 80 (M_codeSort (M_cd v))), ((q 5), aI K 80 (M_codeA (M_cd v))), ((q 6), aI K 80 (M_codeB (M_cd v))), ((q 7), aI K 80 (M_codeC (M_cd v))), ((q 8), aI K 80 (M_codeName (M_cd v))), ((q 9), aI K 80 (M_codePlace (M_cd v))), ((q 10), aI K 80 (M_codeTo (M_cd v))), ((q 11), aI K 280 (M_labelName (M_cd v))), ((q 12), aI K 280 (M_labelAt (M_cd v))), ((q 13), aI K 64 (M_data (M_cd v))), ((q 14), aZ K 32 (M_hasData (M_rd v))), ((q 15), aI K 314 f5), ((q 16), aI K 314 (M_aside (M_ex v))), ((q 17), aI K 314 (M_further (M_ex v))), ((q 18), aI K 314 (M_image (M_im v))), ((q 19), aI K 3 (M_sizeNow (M_rn v))), ((q 20), aI K 8 (M_aloneRegister (M_al v))), ((q 21), aI K 4 (M_aloneReal (M_al v))), ((q 22), aI K 32 (M_aloneMemory (M_al v))), ((q 23), aI K 999 (M_aloneOutput (M_al v)))]) ([(0, .ref (q 0)), (1, .int a1), (2, .int x1), (3, .int x2)]) ([]) 76) → ∀ (n19 : Nat) (x3 : Int32) (f4 : (Nat → Int32)), f_M_trailerLoads_L19 k19_76 n19 x3 f4 = some (r_, o_v) → WW p l e rm_M_trailerLoads s m args below meth c D A 5 0 0 (MQ below (QI D K A r_ (cl_M K q o_v)) args s 0 0 A) ([((q 0), ob 9 [.int (M_thrown v), .ref (q 1), .int (M_taped (M_tp v)), .ref (q 2), .ref (q 3), .ref (q 4), .ref (q 5), .ref (q 6), .ref (q 7), .ref (q 8), .ref (q 9), .ref (q 10), .ref (q 11), .ref (q 12), .ref (q 13), .ref (q 14), .int (M_lines (M_rd v)), .int (M_size (M_rd v)), .int (M_at (M_rd v)), .int (M_place (M_rd v)), .int (M_sort (M_rd v)), .int (M_value (M_rd v)), .int (M_fault (M_rd v)), .int (M_faultPlace (M_rd v)), .int (M_lastFault (M_lf v)), .int (M_lastPlace (M_lf v)), .ref (q 15), .ref (q 16), .ref (q 17), .ref (q 18), .int (M_hasImage (M_im v)), .int (M_spanNow (M_rn v)), .ref (q 19), .int (M_placeThen (M_rn v)), .int (M_alonePlace (M_al v)), .int (M_aloneSteps (M_al v)), .int (M_aloneOut (M_al v)), .ref (q 20), .ref (q 21), .ref (q 22), .ref (q 23), .int (M_shotAlarm (M_ex v)), .int (M_drawn (M_ex v))]), ((q 1), aI K 700 (M_tape (M_tp v))), ((q 2), aI K 20 (M_number (M_cd v))), ((q 3), aZ K 5 (M_isTold (M_rd v))), ((q 4), aI K 80 (M_codeSort (M_cd v))), ((q 5), aI K 80 (M_codeA (M_cd v))), ((q 6), aI K 80 (M_codeB (M_cd v))), ((q 7), aI K 80 (M_codeC (M_cd v))), ((q 8), aI K 80 (M_codeName (M_cd v))), ((q 9), aI K 80 (M_codePlace (M_cd v))), ((q 10), aI K 80 (M_codeTo (M_cd v))), ((q 11), aI K 280 (M_labelName (M_cd v))), ((q 12), aI K 280 (M_labelAt (M_cd v))), ((q 13), aI K 64 (M_data (M_cd v))), ((q 14), aZ K 32 (M_hasData (M_rd v))), ((q 15), aI K 314 f4), ((q 16), aI K 314 (M_aside (M_ex v))), ((q 17), aI K 314 (M_further (M_ex v))), ((q 18), aI K 314 (M_image (M_im v))), ((q 19), aI K 3 (M_sizeNow (M_rn v))), ((q 20), aI K 8 (M_aloneRegister (M_al v))), ((q 21), aI K 4 (M_aloneReal (M_al v))), ((q 22), aI K 32 (M_aloneMemory (M_al v))), ((q 23), aI K 999 (M_aloneOutput (M_al v)))]) ([(0, .ref (q 0)), (1, .int a1), (2, .int x1), (3, .int x2), (4, .int x3)]) ([]) 19 := by
    intro k19_76 hk19_76 n19
    induction n19 with
    | zero => intro x3 f4 hf; exact (nomatch (show (none : Option (Int32 × T_M)) = some _ from hf))
    | succ n19 ih19 =>
      intro x3 f4 hf
      rw [f_M_trailerLoads_L19] at hf
      refine r_iload (pc := 19) cx dX10_trailerLoads_19 4 rfl ?_
      refine r_bipush (pc := 21) cx dX10_trailerLoads_21 bp_8 ?_
      refine r_icmp_ge (pc := 23) (tgt := 76) cx dX10_trailerLoads_23 (by decide) (fun h6 => ?_) (fun h6 => ?_)
      · have hf := ifp h6 hf
        refine r_loc (loc' := [(0, .ref (q 0)), (1, .int a1), (2, .int x1), (3, .int x2)]) [0, 1, 2, 3] rfl ?_
        exact hk19_76 _ hf
      · have hf := ifn h6 hf
        refine r_aload_n (pc := 26) cx dX10_trailerLoads_26 0 rfl ?_
        refine r_get (pc := 27) cx cf_X10 0 26 rfl (by decide) rfl wd_1342 dX10_trailerLoads_27 ?_
        refine r_bipush (pc := 30) cx dX10_trailerLoads_30 bp_87 ?_
        refine r_iload (pc := 32) cx dX10_trailerLoads_32 4 rfl ?_
        refine r_iadd (pc := 34) cx dX10_trailerLoads_34 ?_
        refine r_iconst (pc := 35) cx dX10_trailerLoads_35 ic_1 ?_
        refine r_isub (pc := 36) cx dX10_trailerLoads_36 ?_
        refine r_aload_n (pc := 37) cx dX10_trailerLoads_37 0 rfl ?_
        refine r_get (pc := 38) cx cf_X10 0 26 rfl (by decide) rfl wd_1342 dX10_trailerLoads_38 ?_
        refine r_bipush (pc := 41) cx dX10_trailerLoads_41 bp_87 ?_
        refine r_iload (pc := 43) cx dX10_trailerLoads_43 4 rfl ?_
        refine r_iadd (pc := 45) cx dX10_trailerLoads_45 ?_
        obtain ⟨h7, hf⟩ := chk_of hf
        refine r_iald (pc := 46) cx 15 rfl h7 dX10_trailerLoads_46 ?_
        obtain ⟨x8, ex8, hf⟩ := nm_of hf
        refine r_nm ex8 ?_
        obtain ⟨h9, hf⟩ := chk_of hf
        obtain ⟨f10, ef10, hf⟩ := nm_of hf
        refine r_iast (pc := 47) (ws' := [((q 0), ob 9 [.int (M_thrown v), .ref (q 1), .int (M_taped (M_tp v)), .ref (q 2), .ref (q 3), .ref (q 4), .ref (q 5), .ref (q 6), .ref (q 7), .ref (q 8), .ref (q 9), .ref (q 10), .ref (q 11), .ref (q 12), .ref (q 13), .ref (q 14), .int (M_lines (M_rd v)), .int (M_size (M_rd v)), .int (M_at (M_rd v)), .int (M_place (M_rd v)), .int (M_sort (M_rd v)), .int (M_value (M_rd v)), .int (M_fault (M_rd v)), .int (M_faultPlace (M_rd v)), .int (M_lastFault (M_lf v)), .int (M_lastPlace (M_lf v)), .ref (q 15), .ref (q 16), .ref (q 17), .ref (q 18), .int (M_hasImage (M_im v)), .int (M_spanNow (M_rn v)), .ref (q 19), .int (M_placeThen (M_rn v)), .int (M_alonePlace (M_al v)), .int (M_aloneSteps (M_al v)), .int (M_aloneOut (M_al v)), .ref (q 20), .ref (q 21), .ref (q 22), .ref (q 23), .int (M_shotAlarm (M_ex v)), .int (M_drawn (M_ex v))]), ((q 1), aI K 700 (M_tape (M_tp v))), ((q 2), aI K 20 (M_number (M_cd v))), ((q 3), aZ K 5 (M_isTold (M_rd v))), ((q 4), aI K 80 (M_codeSort (M_cd v))), ((q 5), aI K 80 (M_codeA (M_cd v))), ((q 6), aI K 80 (M_codeB (M_cd v))), ((q 7), aI K 80 (M_codeC (M_cd v))), ((q 8), aI K 80 (M_codeName (M_cd v))), ((q 9), aI K 80 (M_codePlace (M_cd v))), ((q 10), aI K 80 (M_codeTo (M_cd v))), ((q 11), aI K 280 (M_labelName (M_cd v))), ((q 12), aI K 280 (M_labelAt (M_cd v))), ((q 13), aI K 64 (M_data (M_cd v))), ((q 14), aZ K 32 (M_hasData (M_rd v))), ((q 15), aI K 314 f10), ((q 16), aI K 314 (M_aside (M_ex v))), ((q 17), aI K 314 (M_further (M_ex v))), ((q 18), aI K 314 (M_image (M_im v))), ((q 19), aI K 3 (M_sizeNow (M_rn v))), ((q 20), aI K 8 (M_aloneRegister (M_al v))), ((q 21), aI K 4 (M_aloneReal (M_al v))), ((q 22), aI K 32 (M_aloneMemory (M_al v))), ((q 23), aI K 999 (M_aloneOutput (M_al v)))]) cx 15 rfl h9 dX10_trailerLoads_47 ef10 rfl ?_
        refine r_aload_n (pc := 48) cx dX10_trailerLoads_48 0 rfl ?_
        refine r_get (pc := 49) cx cf_X10 0 26 rfl (by decide) rfl wd_1342 dX10_trailerLoads_49 ?_
        refine r_bipush (pc := 52) cx dX10_trailerLoads_52 bp_95 ?_
        refine r_iload (pc := 54) cx dX10_trailerLoads_54 4 rfl ?_
        refine r_iadd (pc := 56) cx dX10_trailerLoads_56 ?_
        refine r_iconst (pc := 57) cx dX10_trailerLoads_57 ic_1 ?_
        refine r_isub (pc := 58) cx dX10_trailerLoads_58 ?_
        refine r_aload_n (pc := 59) cx dX10_trailerLoads_59 0 rfl ?_
        refine r_get (pc := 60) cx cf_X10 0 26 rfl (by decide) rfl wd_1342 dX10_trailerLoads_60 ?_
        refine r_bipush (pc := 63) cx dX10_trailerLoads_63 bp_95 ?_
        refine r_iload (pc := 65) cx dX10_trailerLoads_65 4 rfl ?_
        refine r_iadd (pc := 67) cx dX10_trailerLoads_67 ?_
        obtain ⟨h11, hf⟩ := chk_of hf
        refine r_iald (pc := 68) cx 15 rfl h11 dX10_trailerLoads_68 ?_
        obtain ⟨x12, ex12, hf⟩ := nm_of hf
        refine r_nm ex12 ?_
        obtain ⟨h13, hf⟩ := chk_of hf
        obtain ⟨f14, ef14, hf⟩ := nm_of hf
        refine r_iast (pc := 69) (ws' := [((q 0), ob 9 [.int (M_thrown v), .ref (q 1), .int (M_taped (M_tp v)), .ref (q 2), .ref (q 3), .ref (q 4), .ref (q 5), .ref (q 6), .ref (q 7), .ref (q 8), .ref (q 9), .ref (q 10), .ref (q 11), .ref (q 12), .ref (q 13), .ref (q 14), .int (M_lines (M_rd v)), .int (M_size (M_rd v)), .int (M_at (M_rd v)), .int (M_place (M_rd v)), .int (M_sort (M_rd v)), .int (M_value (M_rd v)), .int (M_fault (M_rd v)), .int (M_faultPlace (M_rd v)), .int (M_lastFault (M_lf v)), .int (M_lastPlace (M_lf v)), .ref (q 15), .ref (q 16), .ref (q 17), .ref (q 18), .int (M_hasImage (M_im v)), .int (M_spanNow (M_rn v)), .ref (q 19), .int (M_placeThen (M_rn v)), .int (M_alonePlace (M_al v)), .int (M_aloneSteps (M_al v)), .int (M_aloneOut (M_al v)), .ref (q 20), .ref (q 21), .ref (q 22), .ref (q 23), .int (M_shotAlarm (M_ex v)), .int (M_drawn (M_ex v))]), ((q 1), aI K 700 (M_tape (M_tp v))), ((q 2), aI K 20 (M_number (M_cd v))), ((q 3), aZ K 5 (M_isTold (M_rd v))), ((q 4), aI K 80 (M_codeSort (M_cd v))), ((q 5), aI K 80 (M_codeA (M_cd v))), ((q 6), aI K 80 (M_codeB (M_cd v))), ((q 7), aI K 80 (M_codeC (M_cd v))), ((q 8), aI K 80 (M_codeName (M_cd v))), ((q 9), aI K 80 (M_codePlace (M_cd v))), ((q 10), aI K 80 (M_codeTo (M_cd v))), ((q 11), aI K 280 (M_labelName (M_cd v))), ((q 12), aI K 280 (M_labelAt (M_cd v))), ((q 13), aI K 64 (M_data (M_cd v))), ((q 14), aZ K 32 (M_hasData (M_rd v))), ((q 15), aI K 314 f14), ((q 16), aI K 314 (M_aside (M_ex v))), ((q 17), aI K 314 (M_further (M_ex v))), ((q 18), aI K 314 (M_image (M_im v))), ((q 19), aI K 3 (M_sizeNow (M_rn v))), ((q 20), aI K 8 (M_aloneRegister (M_al v))), ((q 21), aI K 4 (M_aloneReal (M_al v))), ((q 22), aI K 32 (M_aloneMemory (M_al v))), ((q 23), aI K 999 (M_aloneOutput (M_al v)))]) cx 15 rfl h13 dX10_trailerLoads_69 ef14 rfl ?_
        obtain ⟨x15, ex15, hf⟩ := nm_of hf
        refine r_iinc (pc := 70) (loc' := [(4, .int x15), (0, .ref (q 0)), (1, .int a1), (2, .int x1), (3, .int x2)]) (v := x15) cx dX10_trailerLoads_70 4 rfl ((congrArg (fun z => x3 + z) ic_1).trans ex15.symm) (by decide) rfl ?_
        refine r_goto (pc := 73) (tgt := 19) cx dX10_trailerLoads_73 (by decide) ?_
        refine r_loc (loc' := [(0, .ref (q 0)), (1, .int a1), (2, .int x1), (3, .int x2), (4, .int x15)]) [1, 2, 3, 4, 0] rfl ?_
        exact ih19 _ _ hf
  refine r_loc (loc' := [(0, .ref (q 0)), (1, .int a1), (2, .int x1), (3, .int x2), (4, .int (1 : Int32))]) [3, 4, 2, 1, 0] rfl ?_
  refine hL19 _ (fun f5 hf => ?_) _ _ _ hf
  refine r_aload_n (pc := 76) cx dX10_trailerLoads_76 0 rfl ?_
  refine r_get (pc := 77) cx cf_X10 0 26 rfl (by decide) rfl wd_1342 dX10_trailerLoads_77 ?_
  refine r_bipush (pc := 80) cx dX10_trailerLoads_80 bp_86 ?_
  refine r_dup2 (pc := 82) cx dX10_trailerLoads_82 rfl rfl ?_
  refine r_iald (pc := 83) cx 15 rfl (by decide) dX10_trailerLoads_83 ?_
  refine r_iconst (pc := 84) cx dX10_trailerLoads_84 ic_1 ?_
  refine r_isub (pc := 85) cx dX10_trailerLoads_85 ?_
  obtain ⟨x16, ex16, hf⟩ := nm_of hf
  refine r_nm ex16 ?_
  obtain ⟨f17, ef17, hf⟩ := nm_of hf
  refine r_iast (pc := 86) (ws' := [((q 0), ob 9 [.int (M_thrown v), .ref (q 1), .int (M_taped (M_tp v)), .ref (q 2), .ref (q 3), .ref (q 4), .ref (q 5), .ref (q 6), .ref (q 7), .ref (q 8), .ref (q 9), .ref (q 10), .ref (q 11), .ref (q 12), .ref (q 13), .ref (q 14), .int (M_lines (M_rd v)), .int (M_size (M_rd v)), .int (M_at (M_rd v)), .int (M_place (M_rd v)), .int (M_sort (M_rd v)), .int (M_value (M_rd v)), .int (M_fault (M_rd v)), .int (M_faultPlace (M_rd v)), .int (M_lastFault (M_lf v)), .int (M_lastPlace (M_lf v)), .ref (q 15), .ref (q 16), .ref (q 17), .ref (q 18), .int (M_hasImage (M_im v)), .int (M_spanNow (M_rn v)), .ref (q 19), .int (M_placeThen (M_rn v)), .int (M_alonePlace (M_al v)), .int (M_aloneSteps (M_al v)), .int (M_aloneOut (M_al v)), .ref (q 20), .ref (q 21), .ref (q 22), .ref (q 23), .int (M_shotAlarm (M_ex v)), .int (M_drawn (M_ex v))]), ((q 1), aI K 700 (M_tape (M_tp v))), ((q 2), aI K 20 (M_number (M_cd v))), ((q 3), aZ K 5 (M_isTold (M_rd v))), ((q 4), aI K 80 (M_codeSort (M_cd v))), ((q 5), aI K 80 (M_codeA (M_cd v))), ((q 6), aI K 80 (M_codeB (M_cd v))), ((q 7), aI K 80 (M_codeC (M_cd v))), ((q 8), aI K 80 (M_codeName (M_cd v))), ((q 9), aI K 80 (M_codePlace (M_cd v))), ((q 10), aI K 80 (M_codeTo (M_cd v))), ((q 11), aI K 280 (M_labelName (M_cd v))), ((q 12), aI K 280 (M_labelAt (M_cd v))), ((q 13), aI K 64 (M_data (M_cd v))), ((q 14), aZ K 32 (M_hasData (M_rd v))), ((q 15), aI K 314 f17), ((q 16), aI K 314 (M_aside (M_ex v))), ((q 17), aI K 314 (M_further (M_ex v))), ((q 18), aI K 314 (M_image (M_im v))), ((q 19), aI K 3 (M_sizeNow (M_rn v))), ((q 20), aI K 8 (M_aloneRegister (M_al v))), ((q 21), aI K 4 (M_aloneReal (M_al v))), ((q 22), aI K 32 (M_aloneMemory (M_al v))), ((q 23), aI K 999 (M_aloneOutput (M_al v)))]) cx 15 rfl (by decide) dX10_trailerLoads_86 ef17 rfl ?_
  refine r_iload_n (pc := 87) cx dX10_trailerLoads_87 2 rfl ?_
  refine r_aload_n (pc := 88) cx dX10_trailerLoads_88 0 rfl ?_
  refine r_iconst (pc := 89) cx dX10_trailerLoads_89 ic_1 ?_
  refine r_iload_n (pc := 90) cx dX10_trailerLoads_90 1 rfl ?_
  obtain ⟨r18, hc19, hf⟩ := bd_of hf
  refine r_Vi (pc := 91) (ws' := [((q 0), ob 9 [.int (M_thrown v), .ref (q 1), .int (M_taped (M_tp v)), .ref (q 2), .ref (q 3), .ref (q 4), .ref (q 5), .ref (q 6), .ref (q 7), .ref (q 8), .ref (q 9), .ref (q 10), .ref (q 11), .ref (q 12), .ref (q 13), .ref (q 14), .int (M_lines (M_rd v)), .int (M_size (M_rd v)), .int (M_at (M_rd v)), .int (M_place (M_rd v)), .int (M_sort (M_rd v)), .int (M_value (M_rd v)), .int (M_fault (M_rd v)), .int (M_faultPlace (M_rd v)), .int (M_lastFault (M_lf v)), .int (M_lastPlace (M_lf v)), .ref (q 15), .ref (q 16), .ref (q 17), .ref (q 18), .int (M_hasImage (M_im v)), .int (M_spanNow (M_rn v)), .ref (q 19), .int (M_placeThen (M_rn v)), .int (M_alonePlace (M_al v)), .int (M_aloneSteps (M_al v)), .int (M_aloneOut (M_al v)), .ref (q 20), .ref (q 21), .ref (q 22), .ref (q 23), .int (M_shotAlarm (M_ex v)), .int (M_drawn (M_ex v))]), ((q 1), aI K 700 (M_tape (M_tp v))), ((q 2), aI K 20 (M_number (M_cd v))), ((q 3), aZ K 5 (M_isTold (M_rd v))), ((q 4), aI K 80 (M_codeSort (M_cd v))), ((q 5), aI K 80 (M_codeA (M_cd v))), ((q 6), aI K 80 (M_codeB (M_cd v))), ((q 7), aI K 80 (M_codeC (M_cd v))), ((q 8), aI K 80 (M_codeName (M_cd v))), ((q 9), aI K 80 (M_codePlace (M_cd v))), ((q 10), aI K 80 (M_codeTo (M_cd v))), ((q 11), aI K 280 (M_labelName (M_cd v))), ((q 12), aI K 280 (M_labelAt (M_cd v))), ((q 13), aI K 64 (M_data (M_cd v))), ((q 14), aZ K 32 (M_hasData (M_rd v))), ((q 15), aI K 314 f17), ((q 16), aI K 314 (M_aside (M_ex v))), ((q 17), aI K 314 (M_further (M_ex v))), ((q 18), aI K 314 (M_image (M_im v))), ((q 19), aI K 3 (M_sizeNow (M_rn v))), ((q 20), aI K 8 (M_aloneRegister (M_al v))), ((q 21), aI K 4 (M_aloneReal (M_al v))), ((q 22), aI K 32 (M_aloneMemory (M_al v))), ((q 23), aI K 999 (M_aloneOutput (M_al v)))]) cx [.int (1 : Int32), .int a1] [.int x1] [0, 1, 2, 3, 4, 5, 6, 7, 8, 9, 10, 11, 12, 13, 14, 15, 16, 17, 18, 19, 20, 21, 22, 23] (m_M_addressOf l D K q ((M_tp v), (M_rd v), (M_lf v), (M_cd v), (f17, (M_spanNow (M_rn v)), (M_sizeNow (M_rn v)), (M_placeThen (M_rn v))), (M_ex v), (M_im v), (M_al v), (M_thrown v)) (1 : Int32) a1 hc19) yv_X10_addressOf wd_1611 ⟨rfl, rfl⟩ (by decide) rfl rfl rfl (by decide) 0 rfl rfl rfl (Nat.le_of_ble_eq_true rfl) dX10_trailerLoads_91 ?_
  refine r_icmp_eq (pc := 94) (tgt := 99) cx dX10_trailerLoads_94 (by decide) (fun h20 => ?_) (fun h20 => ?_)
  · have hf := ifp h20 hf
    refine r_aload_n (pc := 99) cx dX10_trailerLoads_99 0 rfl ?_
    refine r_get (pc := 100) cx cf_X10 0 26 rfl (by decide) rfl wd_1342 dX10_trailerLoads_100 ?_
    refine r_bipush (pc := 103) cx dX10_trailerLoads_103 bp_12 ?_
    refine r_aload_n (pc := 105) cx dX10_trailerLoads_105 0 rfl ?_
    refine r_get (pc := 106) cx cf_X10 0 6 rfl (by decide) rfl wd_1322 dX10_trailerLoads_106 ?_
    refine r_iload_n (pc := 109) cx dX10_trailerLoads_109 1 rfl ?_
    obtain ⟨h21, hf⟩ := chk_of hf
    refine r_iald (pc := 110) cx 5 rfl h21 dX10_trailerLoads_110 ?_
    refine r_iadd (pc := 111) cx dX10_trailerLoads_111 ?_
    refine r_iload_n (pc := 112) cx dX10_trailerLoads_112 3 rfl ?_
    obtain ⟨h22, hf⟩ := chk_of hf
    obtain ⟨f23, ef23, hf⟩ := nm_of hf
    refine r_iast (pc := 113) (ws' := [((q 0), ob 9 [.int (M_thrown v), .ref (q 1), .int (M_taped (M_tp v)), .ref (q 2), .ref (q 3), .ref (q 4), .ref (q 5), .ref (q 6), .ref (q 7), .ref (q 8), .ref (q 9), .ref (q 10), .ref (q 11), .ref (q 12), .ref (q 13), .ref (q 14), .int (M_lines (M_rd v)), .int (M_size (M_rd v)), .int (M_at (M_rd v)), .int (M_place (M_rd v)), .int (M_sort (M_rd v)), .int (M_value (M_rd v)), .int (M_fault (M_rd v)), .int (M_faultPlace (M_rd v)), .int (M_lastFault (M_lf v)), .int (M_lastPlace (M_lf v)), .ref (q 15), .ref (q 16), .ref (q 17), .ref (q 18), .int (M_hasImage (M_im v)), .int (M_spanNow (M_rn v)), .ref (q 19), .int (M_placeThen (M_rn v)), .int (M_alonePlace (M_al v)), .int (M_aloneSteps (M_al v)), .int (M_aloneOut (M_al v)), .ref (q 20), .ref (q 21), .ref (q 22), .ref (q 23), .int (M_shotAlarm (M_ex v)), .int (M_drawn (M_ex v))]), ((q 1), aI K 700 (M_tape (M_tp v))), ((q 2), aI K 20 (M_number (M_cd v))), ((q 3), aZ K 5 (M_isTold (M_rd v))), ((q 4), aI K 80 (M_codeSort (M_cd v))), ((q 5), aI K 80 (M_codeA (M_cd v))), ((q 6), aI K 80 (M_codeB (M_cd v))), ((q 7), aI K 80 (M_codeC (M_cd v))), ((q 8), aI K 80 (M_codeName (M_cd v))), ((q 9), aI K 80 (M_codePlace (M_cd v))), ((q 10), aI K 80 (M_codeTo (M_cd v))), ((q 11), aI K 280 (M_labelName (M_cd v))), ((q 12), aI K 280 (M_labelAt (M_cd v))), ((q 13), aI K 64 (M_data (M_cd v))), ((q 14), aZ K 32 (M_hasData (M_rd v))), ((q 15), aI K 314 f23), ((q 16), aI K 314 (M_aside (M_ex v))), ((q 17), aI K 314 (M_further (M_ex v))), ((q 18), aI K 314 (M_image (M_im v))), ((q 19), aI K 3 (M_sizeNow (M_rn v))), ((q 20), aI K 8 (M_aloneRegister (M_al v))), ((q 21), aI K 4 (M_aloneReal (M_al v))), ((q 22), aI K 32 (M_aloneMemory (M_al v))), ((q 23), aI K 999 (M_aloneOutput (M_al v)))]) cx 15 rfl h22 dX10_trailerLoads_113 ef23 rfl ?_
    refine r_iconst (pc := 114) cx dX10_trailerLoads_114 ic_0 ?_
    cases hf
    exact r_iret (pc := 115) cx rfl rfl dX10_trailerLoads_115
  · have hf := ifn h20 hf
    refine r_iconst (pc := 97) cx dX10_trailerLoads_97 ic_1 ?_
    cases hf
    exact r_iret (pc := 98) cx rfl rfl dX10_trailerLoads_98
theorem yv_X10_trailerLoads : YV yX10_trailerLoads cX10_trailerLoads 5 (some .int) 1 := ⟨⟨by decide +kernel, by decide +kernel, by decide +kernel⟩, wd_1618, wd_102, wd_1617, wd_63⟩
def f_M_stepped (v : T_M) (a1 : Int32) : Option (Int32 × T_M) :=
  (if ix ((0 : Int32) + a1) 314 then (nm ((M_s (M_rn v)) (((0 : Int32) + a1)).toNatClampNeg) fun (x2 : Int32) => (if ix x2 80 then (nm ((M_codeSort (M_cd v)) x2.toNatClampNeg) fun (x4 : Int32) => (nm ((4 : Int32) + ((8 : Int32) * a1)) fun (x5 : Int32) => (nm ((20 : Int32) + ((4 : Int32) * a1)) fun (x6 : Int32) => (if ix x2 80 then (nm (x5 + (((M_codeB (M_cd v)) x2.toNatClampNeg) - ((M_codeB (M_cd v)) x2.toNatClampNeg) / (8 : Int32) * (8 : Int32))) fun (x8 : Int32) => (if ix x8 314 then (nm ((M_s (M_rn v)) x8.toNatClampNeg) fun (x10 : Int32) => (nm ((x2 + (1 : Int32)) - (x2 + (1 : Int32)) / (64 : Int32) * (64 : Int32)) fun (x11 : Int32) => (nm (fun (x12 : Int32) (v13 : T_M) => ((nm (M_placeThen (M_rn v13)) fun (x15 : Int32) => (if ix ((0 : Int32) + a1) 314 then (nm (upd (M_s (M_rn v13)) (((0 : Int32) + a1)).toNatClampNeg x15) fun (f17 : Nat → Int32) => (nm ((2 : Int32) + a1) fun (x18 : Int32) => (if ix x18 314 then (nm ((f17 x18.toNatClampNeg) + (1 : Int32)) fun (x20 : Int32) => (if ix x18 314 then (nm (upd f17 x18.toNatClampNeg x20) fun (f22 : Nat → Int32) => (bd (f_M_sticks ((M_tp v13), (M_rd v13), (M_lf v13), (M_cd v13), (f22, (M_spanNow (M_rn v13)), (M_sizeNow (M_rn v13)), (M_placeThen (M_rn v13))), (M_ex v13), (M_im v13), (M_al v13), (M_thrown v13))) fun (v23 : T_M) => (some (x12, v23)))) else none)) else none))) else none)) : Option (Int32 × T_M))) fun J14 => (if x4 = (7 : Int32) then (if ix x2 80 then (if ix x2 80 then (nm ((M_codeB (M_cd v)) x2.toNatClampNeg) fun (x28 : Int32) => (if ix (x5 + ((M_codeA (M_cd v)) x2.toNatClampNeg)) 314 then (nm (upd (M_s (M_rn v)) ((x5 + ((M_codeA (M_cd v)) x2.toNatClampNeg))).toNatClampNeg x28) fun (f30 : Nat → Int32) => (J14 (0 : Int32) ((M_tp v), (M_rd v), (M_lf v), (M_cd v), (f30, (M_spanNow (M_rn v)), (M_sizeNow (M_rn v)), x11), (M_ex v), (M_im v), (M_al v), (M_thrown v)))) else none)) else none) else none) else (if x4 = (8 : Int32) then (if ix x2 80 then (if ix x2 80 then (if ix (x5 + ((M_codeC (M_cd v)) x2.toNatClampNeg)) 314 then (nm (x10 + ((M_s (M_rn v)) ((x5 + ((M_codeC (M_cd v)) x2.toNatClampNeg))).toNatClampNeg)) fun (x35 : Int32) => (if ix (x5 + ((M_codeA (M_cd v)) x2.toNatClampNeg)) 314 then (nm (upd (M_s (M_rn v)) ((x5 + ((M_codeA (M_cd v)) x2.toNatClampNeg))).toNatClampNeg x35) fun (f37 : Nat → Int32) => (J14 (0 : Int32) ((M_tp v), (M_rd v), (M_lf v), (M_cd v), (f37, (M_spanNow (M_rn v)), (M_sizeNow (M_rn v)), x11), (M_ex v), (M_im v), (M_al v), (M_thrown v)))) else none)) else none) else none) else none) else (if x4 = (9 : Int32) then (if ix x2 80 then (if ix x2 80 then (if ix (x5 + ((M_codeC (M_cd v)) x2.toNatClampNeg)) 314 then (nm (x10 - ((M_s (M_rn v)) ((x5 + ((M_codeC (M_cd v)) x2.toNatClampNeg))).toNatClampNeg)) fun (x42 : Int32) => (if ix (x5 + ((M_codeA (M_cd v)) x2.toNatClampNeg)) 314 then (nm (upd (M_s (M_rn v)) ((x5 + ((M_codeA (M_cd v)) x2.toNatClampNeg))).toNatClampNeg x42) fun (f44 : Nat → Int32) => (J14 (0 : Int32) ((M_tp v), (M_rd v), (M_lf v), (M_cd v), (f44, (M_spanNow (M_rn v)), (M_sizeNow (M_rn v)), x11), (M_ex v), (M_im v), (M_al v), (M_thrown v)))) else none)) else none) else none) else none) else (if x4 = (10 : Int32) then (if ix x2 80 then (if ix x2 80 then (if ix (x5 + ((M_codeC (M_cd v)) x2.toNatClampNeg)) 314 then (nm (x10 * ((M_s (M_rn v)) ((x5 + ((M_codeC (M_cd v)) x2.toNatClampNeg))).toNatClampNeg)) fun (x49 : Int32) => (if ix (x5 + ((M_codeA (M_cd v)) x2.toNatClampNeg)) 314 then (nm (upd (M_s (M_rn v)) ((x5 + ((M_codeA (M_cd v)) x2.toNatClampNeg))).toNatClampNeg x49) fun (f51 : Nat → Int32) => (J14 (0 : Int32) ((M_tp v), (M_rd v), (M_lf v), (M_cd v), (f51, (M_spanNow (M_rn v)), (M_sizeNow (M_rn v)), x11), (M_ex v), (M_im v), (M_al v), (M_thrown v)))) else none)) else none) else none) else none) else (if x4 = (11 : Int32) then (if ix x2 80 then (if ix x2 80 then (if ix (x5 + ((M_codeC (M_cd v)) x2.toNatClampNeg)) 314 then (nm (x10 ^^^ ((M_s (M_rn v)) ((x5 + ((M_codeC (M_cd v)) x2.toNatClampNeg))).toNatClampNeg)) fun (x56 : Int32) => (if ix (x5 + ((M_codeA (M_cd v)) x2.toNatClampNeg)) 314 then (nm (upd (M_s (M_rn v)) ((x5 + ((M_codeA (M_cd v)) x2.toNatClampNeg))).toNatClampNeg x56) fun (f58 : Nat → Int32) => (J14 (0 : Int32) ((M_tp v), (M_rd v), (M_lf v), (M_cd v), (f58, (M_spanNow (M_rn v)), (M_sizeNow (M_rn v)), x11), (M_ex v), (M_im v), (M_al v), (M_thrown v)))) else none)) else none) else none) else none) else (if x4 = (12 : Int32) then (if a1 = (0 : Int32) then (bd2 (f_M_leaderLoads ((M_tp v), (M_rd v), (M_lf v), (M_cd v), ((M_s (M_rn v)), (M_spanNow (M_rn v)), (M_sizeNow (M_rn v)), x11), (M_ex v), (M_im v), (M_al v), (M_thrown v)) x2) fun (r64 : Int32) (v65 : T_M) => (J14 r64 v65)) else (bd2 (f_M_trailerLoads ((M_tp v), (M_rd v), (M_lf v), (M_cd v), ((M_s (M_rn v)), (M_spanNow (M_rn v)), (M_sizeNow (M_rn v)), x11), (M_ex v), (M_im v), (M_al v), (M_thrown v)) x2) fun (r61 : Int32) (v62 : T_M) => (J14 r61 v62))) else (if x4 = (13 : Int32) then (if a1 = (0 : Int32) then (bd (f_M_addressOf ((M_tp v), (M_rd v), (M_lf v), (M_cd v), ((M_s (M_rn v)), (M_spanNow (M_rn v)), (M_sizeNow (M_rn v)), x11), (M_ex v), (M_im v), (M_al v), (M_thrown v)) (0 : Int32) x2) fun (r76 : Int32) => (if ix x2 80 then (if ix (x5 + ((M_codeA (M_cd v)) x2.toNatClampNeg)) 314 then (bd2 (f_M_leaderHolds ((M_tp v), (M_rd v), (M_lf v), (M_cd v), ((M_s (M_rn v)), (M_spanNow (M_rn v)), (M_sizeNow (M_rn v)), x11), (M_ex v), (M_im v), (M_al v), (M_thrown v)) r76 ((M_s (M_rn v)) ((x5 + ((M_codeA (M_cd v)) x2.toNatClampNeg))).toNatClampNeg)) fun (r80 : Int32) (v81 : T_M) => (J14 r80 v81)) else none) else none)) else (bd (f_M_addressOf ((M_tp v), (M_rd v), (M_lf v), (M_cd v), ((M_s (M_rn v)), (M_spanNow (M_rn v)), (M_sizeNow (M_rn v)), x11), (M_ex v), (M_im v), (M_al v), (M_thrown v)) (1 : Int32) x2) fun (r69 : Int32) => (if ix x2 80 then (if ix (x5 + ((M_codeA (M_cd v)) x2.toNatClampNeg)) 314 then (bd2 (f_M_trailerHolds ((M_tp v), (M_rd v), (M_lf v), (M_cd v), ((M_s (M_rn v)), (M_spanNow (M_rn v)), (M_sizeNow (M_rn v)), x11), (M_ex v), (M_im v), (M_al v), (M_thrown v)) r69 ((M_s (M_rn v)) ((x5 + ((M_codeA (M_cd v)) x2.toNatClampNeg))).toNatClampNeg)) fun (r73 : Int32) (v74 : T_M) => (J14 r73 v74)) else none) else none))) else (if x4 = (14 : Int32) then (if a1 = (0 : Int32) then (if ix x2 80 then (if ix (x5 + ((M_codeA (M_cd v)) x2.toNatClampNeg)) 314 then (bd2 (f_M_leaderHolds ((M_tp v), (M_rd v), (M_lf v), (M_cd v), ((M_s (M_rn v)), (M_spanNow (M_rn v)), (M_sizeNow (M_rn v)), x11), (M_ex v), (M_im v), (M_al v), (M_thrown v)) (32 : Int32) ((M_s (M_rn v)) ((x5 + ((M_codeA (M_cd v)) x2.toNatClampNeg))).toNatClampNeg)) fun (r92 : Int32) (v93 : T_M) => (J14 r92 v93)) else none) else none) else (if ix x2 80 then (if ix (x5 + ((M_codeA (M_cd v)) x2.toNatClampNeg)) 314 then (bd2 (f_M_trailerHolds ((M_tp v), (M_rd v), (M_lf v), (M_cd v), ((M_s (M_rn v)), (M_spanNow (M_rn v)), (M_sizeNow (M_rn v)), x11), (M_ex v), (M_im v), (M_al v), (M_thrown v)) (32 : Int32) ((M_s (M_rn v)) ((x5 + ((M_codeA (M_cd v)) x2.toNatClampNeg))).toNatClampNeg)) fun (r87 : Int32) (v88 : T_M) => (J14 r87 v88)) else none) else none)) else (if x4 = (15 : Int32) then (if ix x2 80 then (bd (f_M_cut (FP.i2d x10)) fun (r97 : Int32) => (if ix (x6 + ((M_codeA (M_cd v)) x2.toNatClampNeg)) 314 then (nm (upd (M_s (M_rn v)) ((x6 + ((M_codeA (M_cd v)) x2.toNatClampNeg))).toNatClampNeg r97) fun (f100 : Nat → Int32) => (J14 (0 : Int32) ((M_tp v), (M_rd v), (M_lf v), (M_cd v), (f100, (M_spanNow (M_rn v)), (M_sizeNow (M_rn v)), x11), (M_ex v), (M_im v), (M_al v), (M_thrown v)))) else none)) else none) else (if x4 = (16 : Int32) then (if ix x2 80 then (if ix x2 80 then (if ix (x6 + ((M_codeB (M_cd v)) x2.toNatClampNeg)) 314 then (bd (f_M_whole ((M_s (M_rn v)) ((x6 + ((M_codeB (M_cd v)) x2.toNatClampNeg))).toNatClampNeg)) fun (r105 : Int32) => (if ix (x5 + ((M_codeA (M_cd v)) x2.toNatClampNeg)) 314 then (nm (upd (M_s (M_rn v)) ((x5 + ((M_codeA (M_cd v)) x2.toNatClampNeg))).toNatClampNeg r105) fun (f108 : Nat → Int32) => (J14 (0 : Int32) ((M_tp v), (M_rd v), (M_lf v), (M_cd v), (f108, (M_spanNow (M_rn v)), (M_sizeNow (M_rn v)), x11), (M_ex v), (M_im v), (M_al v), (M_thrown v)))) else none)) else none) else none) else none) else (if x4 = (17 : Int32) then (if ix x2 80 then (if ix x2 80 then (if ix (x6 + ((M_codeB (M_cd v)) x2.toNatClampNeg)) 314 then (nm ((M_s (M_rn v)) ((x6 + ((M_codeB (M_cd v)) x2.toNatClampNeg))).toNatClampNeg) fun (x113 : Int32) => (if ix (x5 + ((M_codeA (M_cd v)) x2.toNatClampNeg)) 314 then (nm (upd (M_s (M_rn v)) ((x5 + ((M_codeA (M_cd v)) x2.toNatClampNeg))).toNatClampNeg x113) fun (f115 : Nat → Int32) => (J14 (0 : Int32) ((M_tp v), (M_rd v), (M_lf v), (M_cd v), (f115, (M_spanNow (M_rn v)), (M_sizeNow (M_rn v)), x11), (M_ex v), (M_im v), (M_al v), (M_thrown v)))) else none)) else none) else none) else none) else (if x4 = (18 : Int32) then (if ix x2 80 then (if ix x2 80 then (if ix (x6 + ((M_codeB (M_cd v)) x2.toNatClampNeg)) 314 then (if ix x2 80 then (if ix (x6 + ((M_codeC (M_cd v)) x2.toNatClampNeg)) 314 then (bd (f_M_added ((M_s (M_rn v)) ((x6 + ((M_codeB (M_cd v)) x2.toNatClampNeg))).toNatClampNeg) ((M_s (M_rn v)) ((x6 + ((M_codeC (M_cd v)) x2.toNatClampNeg))).toNatClampNeg)) fun (r122 : Int32) => (if ix (x6 + ((M_codeA (M_cd v)) x2.toNatClampNeg)) 314 then (nm (upd (M_s (M_rn v)) ((x6 + ((M_codeA (M_cd v)) x2.toNatClampNeg))).toNatClampNeg r122) fun (f125 : Nat → Int32) => (J14 (0 : Int32) ((M_tp v), (M_rd v), (M_lf v), (M_cd v), (f125, (M_spanNow (M_rn v)), (M_sizeNow (M_rn v)), x11), (M_ex v), (M_im v), (M_al v), (M_thrown v)))) else none)) else none) else none) else none) else none) else none) else (if x4 = (19 : Int32) then (if ix x2 80 then (if ix x2 80 then (if ix (x6 + ((M_codeB (M_cd v)) x2.toNatClampNeg)) 314 then (if ix x2 80 then (if ix (x6 + ((M_codeC (M_cd v)) x2.toNatClampNeg)) 314 then (bd (f_M_multiplied ((M_s (M_rn v)) ((x6 + ((M_codeB (M_cd v)) x2.toNatClampNeg))).toNatClampNeg) ((M_s (M_rn v)) ((x6 + ((M_codeC (M_cd v)) x2.toNatClampNeg))).toNatClampNeg)) fun (r132 : Int32) => (if ix (x6 + ((M_codeA (M_cd v)) x2.toNatClampNeg)) 314 then (nm (upd (M_s (M_rn v)) ((x6 + ((M_codeA (M_cd v)) x2.toNatClampNeg))).toNatClampNeg r132) fun (f135 : Nat → Int32) => (J14 (0 : Int32) ((M_tp v), (M_rd v), (M_lf v), (M_cd v), (f135, (M_spanNow (M_rn v)), (M_sizeNow (M_rn v)), x11), (M_ex v), (M_im v), (M_al v), (M_thrown v)))) else none)) else none) else none) else none) else none) else none) else (if x4 = (20 : Int32) then (if ix x2 80 then (nm ((M_codeTo (M_cd v)) x2.toNatClampNeg) fun (x138 : Int32) => (J14 (0 : Int32) ((M_tp v), (M_rd v), (M_lf v), (M_cd v), ((M_s (M_rn v)), (M_spanNow (M_rn v)), (M_sizeNow (M_rn v)), x138), (M_ex v), (M_im v), (M_al v), (M_thrown v)))) else none) else (if ix x2 80 then (if ix (x5 + ((M_codeA (M_cd v)) x2.toNatClampNeg)) 314 then (if ix x2 80 then (nm (x6 + (((M_codeA (M_cd v)) x2.toNatClampNeg) - ((M_codeA (M_cd v)) x2.toNatClampNeg) / (4 : Int32) * (4 : Int32))) fun (x142 : Int32) => (if ix x142 314 then (if ix x2 80 then (nm (x6 + (((M_codeB (M_cd v)) x2.toNatClampNeg) - ((M_codeB (M_cd v)) x2.toNatClampNeg) / (4 : Int32) * (4 : Int32))) fun (x145 : Int32) => (if ix x145 314 then (bd (f_M_goesBy x4 ((M_s (M_rn v)) ((x5 + ((M_codeA (M_cd v)) x2.toNatClampNeg))).toNatClampNeg) x10 ((M_s (M_rn v)) x142.toNatClampNeg) ((M_s (M_rn v)) x145.toNatClampNeg)) fun (r147 : Int32) => (bd2 (f_M_branches ((M_tp v), (M_rd v), (M_lf v), (M_cd v), ((M_s (M_rn v)), (M_spanNow (M_rn v)), (M_sizeNow (M_rn v)), x11), (M_ex v), (M_im v), (M_al v), (M_thrown v)) a1 x2 r147) fun (r149 : Int32) (v150 : T_M) => (J14 r149 v150))) else none)) else none) else none)) else none) else none) else none)))))))))))))))))) else none)) else none)))) else none)) else none)
abbrev rm_M_stepped : Room := { frames := 4, cells := 0, slots := 0, locals := 96 }
set_option maxRecDepth 100000 in
set_option maxHeartbeats 4000000 in
theorem m_M_stepped (l : Launch) (D : va_G) (K : Nat → ClassId) (q : Nat → Nat) (v : T_M) (a1 : Int32) {r_ : Int32} {o_v : T_M} (hf : f_M_stepped v a1 = some (r_, o_v)) : MI l yX10_stepped cX10_stepped 8 (some .int) rm_M_stepped D K [.ref (q 0), .int a1] (cl_M K q v) r_ (cl_M K q o_v) := by
  refine MI_of (loc0 := [(0, .ref (q 0)), (1, .int a1)]) (by decide +kernel) rfl (Nat.le_of_ble_eq_true rfl) ?_
  intro p e s m args below meth c A cx
  unfold f_M_stepped at hf
  refine r_ws (ws' := [((q 0), ob 9 [.int (M_thrown v), .ref (q 1), .int (M_taped (M_tp v)), .ref (q 2), .ref (q 3), .ref (q 4), .ref (q 5), .ref (q 6), .ref (q 7), .ref (q 8), .ref (q 9), .ref (q 10), .ref (q 11), .ref (q 12), .ref (q 13), .ref (q 14), .int (M_lines (M_rd v)), .int (M_size (M_rd v)), .int (M_at (M_rd v)), .int (M_place (M_rd v)), .int (M_sort (M_rd v)), .int (M_value (M_rd v)), .int (M_fault (M_rd v)), .int (M_faultPlace (M_rd v)), .int (M_lastFault (M_lf v)), .int (M_lastPlace (M_lf v)), .ref (q 15), .ref (q 16), .ref (q 17), .ref (q 18), .int (M_hasImage (M_im v)), .int (M_spanNow (M_rn v)), .ref (q 19), .int (M_placeThen (M_rn v)), .int (M_alonePlace (M_al v)), .int (M_aloneSteps (M_al v)), .int (M_aloneOut (M_al v)), .ref (q 20), .ref (q 21), .ref (q 22), .ref (q 23), .int (M_shotAlarm (M_ex v)), .int (M_drawn (M_ex v))]), ((q 1), aI K 700 (M_tape (M_tp v))), ((q 2), aI K 20 (M_number (M_cd v))), ((q 3), aZ K 5 (M_isTold (M_rd v))), ((q 4), aI K 80 (M_codeSort (M_cd v))), ((q 5), aI K 80 (M_codeA (M_cd v))), ((q 6), aI K 80 (M_codeB (M_cd v))), ((q 7), aI K 80 (M_codeC (M_cd v))), ((q 8), aI K 80 (M_codeName (M_cd v))), ((q 9), aI K 80 (M_codePlace (M_cd v))), ((q 10), aI K 80 (M_codeTo (M_cd v))), ((q 11), aI K 280 (M_labelName (M_cd v))), ((q 12), aI K 280 (M_labelAt (M_cd v))), ((q 13), aI K 64 (M_data (M_cd v))), ((q 14), aZ K 32 (M_hasData (M_rd v))), ((q 15), aI K 314 (M_s (M_rn v))), ((q 16), aI K 314 (M_aside (M_ex v))), ((q 17), aI K 314 (M_further (M_ex v))), ((q 18), aI K 314 (M_image (M_im v))), ((q 19), aI K 3 (M_sizeNow (M_rn v))), ((q 20), aI K 8 (M_aloneRegister (M_al v))), ((q 21), aI K 4 (M_aloneReal (M_al v))), ((q 22), aI K 32 (M_aloneMemory (M_al v))), ((q 23), aI K 999 (M_aloneOutput (M_al v)))]) rfl ?_
  refine r_aload_n (pc := 0) cx dX10_stepped_0 0 rfl ?_
  refine r_get (pc := 1) cx cf_X10 0 26 rfl (by decide) rfl wd_1342 dX10_stepped_1 ?_
  refine r_iconst (pc := 4) cx dX10_stepped_4 ic_0 ?_
  refine r_iload_n (pc := 5) cx dX10_stepped_5 1 rfl ?_
  refine r_iadd (pc := 6) cx dX10_stepped_6 ?_
  obtain ⟨h1, hf⟩ := chk_of hf
  refine r_iald (pc := 7) cx 15 rfl h1 dX10_stepped_7 ?_
  obtain ⟨x2, ex2, hf⟩ := nm_of hf
  refine r_nm ex2 ?_
  refine r_istore_n (pc := 8) (loc' := [(2, .int x2), (0, .ref (q 0)), (1, .int a1)]) cx dX10_stepped_8 rfl (by decide) rfl ?_
  refine r_aload_n (pc := 9) cx dX10_stepped_9 1 rfl ?_
  refine r_get (pc := 10) cx cf_X10 0 5 rfl (by decide) rfl wd_1321 dX10_stepped_10 ?_
  refine r_iload_n (pc := 13) cx dX10_stepped_13 0 rfl ?_
  obtain ⟨h3, hf⟩ := chk_of hf
  refine r_iald (pc := 14) cx 4 rfl h3 dX10_stepped_14 ?_
  obtain ⟨x4, ex4, hf⟩ := nm_of hf
  refine r_nm ex4 ?_
  refine r_istore_n (pc := 15) (loc' := [(3, .int x4), (2, .int x2), (0, .ref (q 0)), (1, .int a1)]) cx dX10_stepped_15 rfl (by decide) rfl ?_
  refine r_iconst (pc := 16) cx dX10_stepped_16 ic_4 ?_
  refine r_bipush (pc := 17) cx dX10_stepped_17 bp_8 ?_
  refine r_iload_n (pc := 19) cx dX10_stepped_19 3 rfl ?_
  refine r_imul (pc := 20) cx dX10_stepped_20 ?_
  refine r_iadd (pc := 21) cx dX10_stepped_21 ?_
  obtain ⟨x5, ex5, hf⟩ := nm_of hf
  refine r_nm ex5 ?_
  refine r_istore (pc := 22) (loc' := [(4, .int x5), (3, .int x4), (2, .int x2), (0, .ref (q 0)), (1, .int a1)]) cx dX10_stepped_22 (by decide) rfl ?_
  refine r_bipush (pc := 24) cx dX10_stepped_24 bp_20 ?_
  refine r_iconst (pc := 26) cx dX10_stepped_26 ic_4 ?_
  refine r_iload_n (pc := 27) cx dX10_stepped_27 4 rfl ?_
  refine r_imul (pc := 28) cx dX10_stepped_28 ?_
  refine r_iadd (pc := 29) cx dX10_stepped_29 ?_
  obtain ⟨x6, ex6, hf⟩ := nm_of hf
  refine r_nm ex6 ?_
  refine r_istore (pc := 30) (loc' := [(5, .int x6), (4, .int x5), (3, .int x4), (2, .int x2), (0, .ref (q 0)), (1, .int a1)]) cx dX10_stepped_30 (by decide) rfl ?_
  refine r_aload_n (pc := 32) cx dX10_stepped_32 4 rfl ?_
  refine r_get (pc := 33) cx cf_X10 0 26 rfl (by decide) rfl wd_1342 dX10_stepped_33 ?_
  refine r_iload (pc := 36) cx dX10_stepped_36 1 rfl ?_
  refine r_aload_n (pc := 38) cx dX10_stepped_38 4 rfl ?_
  refine r_get (pc := 39) cx cf_X10 0 7 rfl (by decide) rfl wd_1323 dX10_stepped_39 ?_
  refine r_iload_n (pc := 42) cx dX10_stepped_42 3 rfl ?_
  obtain ⟨h7, hf⟩ := chk_of hf
  refine r_iald (pc := 43) cx 6 rfl h7 dX10_stepped_43 ?_
  refine r_bipush (pc := 44) cx dX10_stepped_44 bp_8 ?_
  refine r_irem (pc := 46) cx dX10_stepped_46 (by decide) ?_
  refine r_iadd (pc := 47) cx dX10_stepped_47 ?_
  obtain ⟨x8, ex8, hf⟩ := nm_of hf
  refine r_nm ex8 ?_
  obtain ⟨h9, hf⟩ := chk_of hf
  refine r_iald (pc := 48) cx 15 rfl h9 dX10_stepped_48 ?_
  obtain ⟨x10, ex10, hf⟩ := nm_of hf
  refine r_nm ex10 ?_
  refine r_istore (pc := 49) (loc' := [(6, .int x10), (5, .int x6), (4, .int x5), (3, .int x4), (2, .int x2), (0, .ref (q 0)), (1, .int a1)]) cx dX10_stepped_49 (by decide) rfl ?_
  refine r_aload_n (pc := 51) cx dX10_stepped_51 5 rfl ?_
  refine r_iload_n (pc := 52) cx dX10_stepped_52 4 rfl ?_
  refine r_iconst (pc := 53) cx dX10_stepped_53 ic_1 ?_
  refine r_iadd (pc := 54) cx dX10_stepped_54 ?_
  refine r_bipush (pc := 55) cx dX10_stepped_55 bp_64 ?_
  refine r_irem (pc := 57) cx dX10_stepped_57 (by decide) ?_
  obtain ⟨x11, ex11, hf⟩ := nm_of hf
  refine r_nm ex11 ?_
  refine r_putI (pc := 58) (ws' := [((q 0), ob 9 [.int (M_thrown v), .ref (q 1), .int (M_taped (M_tp v)), .ref (q 2), .ref (q 3), .ref (q 4), .ref (q 5), .ref (q 6), .ref (q 7), .ref (q 8), .ref (q 9), .ref (q 10), .ref (q 11), .ref (q 12), .ref (q 13), .ref (q 14), .int (M_lines (M_rd v)), .int (M_size (M_rd v)), .int (M_at (M_rd v)), .int (M_place (M_rd v)), .int (M_sort (M_rd v)), .int (M_value (M_rd v)), .int (M_fault (M_rd v)), .int (M_faultPlace (M_rd v)), .int (M_lastFault (M_lf v)), .int (M_lastPlace (M_lf v)), .ref (q 15), .ref (q 16), .ref (q 17), .ref (q 18), .int (M_hasImage (M_im v)), .int (M_spanNow (M_rn v)), .ref (q 19), .int x11, .int (M_alonePlace (M_al v)), .int (M_aloneSteps (M_al v)), .int (M_aloneOut (M_al v)), .ref (q 20), .ref (q 21), .ref (q 22), .ref (q 23), .int (M_shotAlarm (M_ex v)), .int (M_drawn (M_ex v))]), ((q 1), aI K 700 (M_tape (M_tp v))), ((q 2), aI K 20 (M_number (M_cd v))), ((q 3), aZ K 5 (M_isTold (M_rd v))), ((q 4), aI K 80 (M_codeSort (M_cd v))), ((q 5), aI K 80 (M_codeA (M_cd v))), ((q 6), aI K 80 (M_codeB (M_cd v))), ((q 7), aI K 80 (M_codeC (M_cd v))), ((q 8), aI K 80 (M_codeName (M_cd v))), ((q 9), aI K 80 (M_codePlace (M_cd v))), ((q 10), aI K 80 (M_codeTo (M_cd v))), ((q 11), aI K 280 (M_labelName (M_cd v))), ((q 12), aI K 280 (M_labelAt (M_cd v))), ((q 13), aI K 64 (M_data (M_cd v))), ((q 14), aZ K 32 (M_hasData (M_rd v))), ((q 15), aI K 314 (M_s (M_rn v))), ((q 16), aI K 314 (M_aside (M_ex v))), ((q 17), aI K 314 (M_further (M_ex v))), ((q 18), aI K 314 (M_image (M_im v))), ((q 19), aI K 3 (M_sizeNow (M_rn v))), ((q 20), aI K 8 (M_aloneRegister (M_al v))), ((q 21), aI K 4 (M_aloneReal (M_al v))), ((q 22), aI K 32 (M_aloneMemory (M_al v))), ((q 23), aI K 999 (M_aloneOutput (M_al v)))]) cx cf_X10 0 33 rfl (by decide) (Nat.le_of_ble_eq_true rfl) rfl pfd_I wd_1349 dX10_stepped_58 rfl ?_
  refine r_iconst (pc := 61) cx dX10_stepped_61 ic_0 ?_
  refine r_istore (pc := 62) (loc' := [(7, .int (0 : Int32)), (6, .int x10), (5, .int x6), (4, .int x5), (3, .int x4), (2, .int x2), (0, .ref (q 0)), (1, .int a1)]) cx dX10_stepped_62 (by decide) rfl ?_
  refine r_iload_n (pc := 64) cx dX10_stepped_64 4 rfl ?_
  obtain ⟨J14, eJ14, hf⟩ := nm_of hf
  have hJ14 : ∀ (x12 : Int32) (v13 : T_M), J14 x12 v13 = some (r_, o_v) → WW p l e rm_M_stepped s m args below meth c D A 8 0 0 (MQ below (QI D K A r_ (cl_M K q o_v)) args s 0 0 A) ([((q 0), ob 9 [.int (M_thrown v13), .ref (q 1), .int (M_taped (M_tp v13)), .ref (q 2), .ref (q 3), .ref (q 4), .ref (q 5), .ref (q 6), .ref (q 7), .ref (q 8), .ref (q 9), .ref (q 10), .ref (q 11), .ref (q 12), .ref (q 13), .ref (q 14), .int (M_lines (M_rd v13)), .int (M_size (M_rd v13)), .int (M_at (M_rd v13)), .int (M_place (M_rd v13)), .int (M_sort (M_rd v13)), .int (M_value (M_rd v13)), .int (M_fault (M_rd v13)), .int (M_faultPlace (M_rd v13)), .int (M_lastFault (M_lf v13)), .int (M_lastPlace (M_lf v13)), .ref (q 15), .ref (q 16), .ref (q 17), .ref (q 18), .int (M_hasImage (M_im v13)), .int (M_spanNow (M_rn v13)), .ref (q 19), .int (M_placeThen (M_rn v13)), .int (M_alonePlace (M_al v13)), .int (M_aloneSteps (M_al v13)), .int (M_aloneOut (M_al v13)), .ref (q 20), .ref (q 21), .ref (q 22), .ref (q 23), .int (M_shotAlarm (M_ex v13)), .int (M_drawn (M_ex v13))]), ((q 1), aI K 700 (M_tape (M_tp v13))), ((q 2), aI K 20 (M_number (M_cd v13))), ((q 3), aZ K 5 (M_isTold (M_rd v13))), ((q 4), aI K 80 (M_codeSort (M_cd v13))), ((q 5), aI K 80 (M_codeA (M_cd v13))), ((q 6), aI K 80 (M_codeB (M_cd v13))), ((q 7), aI K 80 (M_codeC (M_cd v13))), ((q 8), aI K 80 (M_codeName (M_cd v13))), ((q 9), aI K 80 (M_codePlace (M_cd v13))), ((q 10), aI K 80 (M_codeTo (M_cd v13))), ((q 11), aI K 280 (M_labelName (M_cd v13))), ((q 12), aI K 280 (M_labelAt (M_cd v13))), ((q 13), aI K 64 (M_data (M_cd v13))), ((q 14), aZ K 32 (M_hasData (M_rd v13))), ((q 15), aI K 314 (M_s (M_rn v13))), ((q 16), aI K 314 (M_aside (M_ex v13))), ((q 17), aI K 314 (M_further (M_ex v13))), ((q 18), aI K 314 (M_image (M_im v13))), ((q 19), aI K 3 (M_sizeNow (M_rn v13))), ((q 20), aI K 8 (M_aloneRegister (M_al v13))), ((q 21), aI K 4 (M_aloneReal (M_al v13))), ((q 22), aI K 32 (M_aloneMemory (M_al v13))), ((q 23), aI K 999 (M_aloneOutput (M_al v13)))]) ([(0, .ref (q 0)), (1, .int a1), (7, .int x12)]) ([]) 686 := by
    intro x12 v13 hf
    rw [eJ14] at hf
    refine r_aload_n (pc := 686) cx dX10_stepped_686 0 rfl ?_
    refine r_get (pc := 687) cx cf_X10 0 26 rfl (by decide) rfl wd_1342 dX10_stepped_687 ?_
    refine r_iconst (pc := 690) cx dX10_stepped_690 ic_0 ?_
    refine r_iload_n (pc := 691) cx dX10_stepped_691 1 rfl ?_
    refine r_iadd (pc := 692) cx dX10_stepped_692 ?_
    refine r_aload_n (pc := 693) cx dX10_stepped_693 0 rfl ?_
    refine r_get (pc := 694) cx cf_X10 0 33 rfl (by decide) rfl wd_1349 dX10_stepped_694 ?_
    obtain ⟨x15, ex15, hf⟩ := nm_of hf
    refine r_nm ex15 ?_
    obtain ⟨h16, hf⟩ := chk_of hf
    obtain ⟨f17, ef17, hf⟩ := nm_of hf
    refine r_iast (pc := 697) (ws' := [((q 0), ob 9 [.int (M_thrown v13), .ref (q 1), .int (M_taped (M_tp v13)), .ref (q 2), .ref (q 3), .ref (q 4), .ref (q 5), .ref (q 6), .ref (q 7), .ref (q 8), .ref (q 9), .ref (q 10), .ref (q 11), .ref (q 12), .ref (q 13), .ref (q 14), .int (M_lines (M_rd v13)), .int (M_size (M_rd v13)), .int (M_at (M_rd v13)), .int (M_place (M_rd v13)), .int (M_sort (M_rd v13)), .int (M_value (M_rd v13)), .int (M_fault (M_rd v13)), .int (M_faultPlace (M_rd v13)), .int (M_lastFault (M_lf v13)), .int (M_lastPlace (M_lf v13)), .ref (q 15), .ref (q 16), .ref (q 17), .ref (q 18), .int (M_hasImage (M_im v13)), .int (M_spanNow (M_rn v13)), .ref (q 19), .int (M_placeThen (M_rn v13)), .int (M_alonePlace (M_al v13)), .int (M_aloneSteps (M_al v13)), .int (M_aloneOut (M_al v13)), .ref (q 20), .ref (q 21), .ref (q 22), .ref (q 23), .int (M_shotAlarm (M_ex v13)), .int (M_drawn (M_ex v13))]), ((q 1), aI K 700 (M_tape (M_tp v13))), ((q 2), aI K 20 (M_number (M_cd v13))), ((q 3), aZ K 5 (M_isTold (M_rd v13))), ((q 4), aI K 80 (M_codeSort (M_cd v13))), ((q 5), aI K 80 (M_codeA (M_cd v13))), ((q 6), aI K 80 (M_codeB (M_cd v13))), ((q 7), aI K 80 (M_codeC (M_cd v13))), ((q 8), aI K 80 (M_codeName (M_cd v13))), ((q 9), aI K 80 (M_codePlace (M_cd v13))), ((q 10), aI K 80 (M_codeTo (M_cd v13))), ((q 11), aI K 280 (M_labelName (M_cd v13))), ((q 12), aI K 280 (M_labelAt (M_cd v13))), ((q 13), aI K 64 (M_data (M_cd v13))), ((q 14), aZ K 32 (M_hasData (M_rd v13))), ((q 15), aI K 314 f17), ((q 16), aI K 314 (M_aside (M_ex v13))), ((q 17), aI K 314 (M_further (M_ex v13))), ((q 18), aI K 314 (M_image (M_im v13))), ((q 19), aI K 3 (M_sizeNow (M_rn v13))), ((q 20), aI K 8 (M_aloneRegister (M_al v13))), ((q 21), aI K 4 (M_aloneReal (M_al v13))), ((q 22), aI K 32 (M_aloneMemory (M_al v13))), ((q 23), aI K 999 (M_aloneOutput (M_al v13)))]) cx 15 rfl h16 dX10_stepped_697 ef17 rfl ?_
    refine r_aload_n (pc := 698) cx dX10_stepped_698 0 rfl ?_
    refine r_get (pc := 699) cx cf_X10 0 26 rfl (by decide) rfl wd_1342 dX10_stepped_699 ?_
    refine r_iconst (pc := 702) cx dX10_stepped_702 ic_2 ?_
    refine r_iload_n (pc := 703) cx dX10_stepped_703 1 rfl ?_
    refine r_iadd (pc := 704) cx dX10_stepped_704 ?_
    obtain ⟨x18, ex18, hf⟩ := nm_of hf
    refine r_nm ex18 ?_
    refine r_dup2 (pc := 705) cx dX10_stepped_705 rfl rfl ?_
    obtain ⟨h19, hf⟩ := chk_of hf
    refine r_iald (pc := 706) cx 15 rfl h19 dX10_stepped_706 ?_
    refine r_iconst (pc := 707) cx dX10_stepped_707 ic_1 ?_
    refine r_iadd (pc := 708) cx dX10_stepped_708 ?_
    obtain ⟨x20, ex20, hf⟩ := nm_of hf
    refine r_nm ex20 ?_
    obtain ⟨h21, hf⟩ := chk_of hf
    obtain ⟨f22, ef22, hf⟩ := nm_of hf
    refine r_iast (pc := 709) (ws' := [((q 0), ob 9 [.int (M_thrown v13), .ref (q 1), .int (M_taped (M_tp v13)), .ref (q 2), .ref (q 3), .ref (q 4), .ref (q 5), .ref (q 6), .ref (q 7), .ref (q 8), .ref (q 9), .ref (q 10), .ref (q 11), .ref (q 12), .ref (q 13), .ref (q 14), .int (M_lines (M_rd v13)), .int (M_size (M_rd v13)), .int (M_at (M_rd v13)), .int (M_place (M_rd v13)), .int (M_sort (M_rd v13)), .int (M_value (M_rd v13)), .int (M_fault (M_rd v13)), .int (M_faultPlace (M_rd v13)), .int (M_lastFault (M_lf v13)), .int (M_lastPlace (M_lf v13)), .ref (q 15), .ref (q 16), .ref (q 17), .ref (q 18), .int (M_hasImage (M_im v13)), .int (M_spanNow (M_rn v13)), .ref (q 19), .int (M_placeThen (M_rn v13)), .int (M_alonePlace (M_al v13)), .int (M_aloneSteps (M_al v13)), .int (M_aloneOut (M_al v13)), .ref (q 20), .ref (q 21), .ref (q 22), .ref (q 23), .int (M_shotAlarm (M_ex v13)), .int (M_drawn (M_ex v13))]), ((q 1), aI K 700 (M_tape (M_tp v13))), ((q 2), aI K 20 (M_number (M_cd v13))), ((q 3), aZ K 5 (M_isTold (M_rd v13))), ((q 4), aI K 80 (M_codeSort (M_cd v13))), ((q 5), aI K 80 (M_codeA (M_cd v13))), ((q 6), aI K 80 (M_codeB (M_cd v13))), ((q 7), aI K 80 (M_codeC (M_cd v13))), ((q 8), aI K 80 (M_codeName (M_cd v13))), ((q 9), aI K 80 (M_codePlace (M_cd v13))), ((q 10), aI K 80 (M_codeTo (M_cd v13))), ((q 11), aI K 280 (M_labelName (M_cd v13))), ((q 12), aI K 280 (M_labelAt (M_cd v13))), ((q 13), aI K 64 (M_data (M_cd v13))), ((q 14), aZ K 32 (M_hasData (M_rd v13))), ((q 15), aI K 314 f22), ((q 16), aI K 314 (M_aside (M_ex v13))), ((q 17), aI K 314 (M_further (M_ex v13))), ((q 18), aI K 314 (M_image (M_im v13))), ((q 19), aI K 3 (M_sizeNow (M_rn v13))), ((q 20), aI K 8 (M_aloneRegister (M_al v13))), ((q 21), aI K 4 (M_aloneReal (M_al v13))), ((q 22), aI K 32 (M_aloneMemory (M_al v13))), ((q 23), aI K 999 (M_aloneOutput (M_al v13)))]) cx 15 rfl h21 dX10_stepped_709 ef22 rfl ?_
    refine r_aload_n (pc := 710) cx dX10_stepped_710 0 rfl ?_
    obtain ⟨v23, hc24, hf⟩ := bd_of hf
    refine r_Vv (pc := 711) (ws' := [((q 0), ob 9 [.int (M_thrown v23), .ref (q 1), .int (M_taped (M_tp v23)), .ref (q 2), .ref (q 3), .ref (q 4), .ref (q 5), .ref (q 6), .ref (q 7), .ref (q 8), .ref (q 9), .ref (q 10), .ref (q 11), .ref (q 12), .ref (q 13), .ref (q 14), .int (M_lines (M_rd v23)), .int (M_size (M_rd v23)), .int (M_at (M_rd v23)), .int (M_place (M_rd v23)), .int (M_sort (M_rd v23)), .int (M_value (M_rd v23)), .int (M_fault (M_rd v23)), .int (M_faultPlace (M_rd v23)), .int (M_lastFault (M_lf v23)), .int (M_lastPlace (M_lf v23)), .ref (q 15), .ref (q 16), .ref (q 17), .ref (q 18), .int (M_hasImage (M_im v23)), .int (M_spanNow (M_rn v23)), .ref (q 19), .int (M_placeThen (M_rn v23)), .int (M_alonePlace (M_al v23)), .int (M_aloneSteps (M_al v23)), .int (M_aloneOut (M_al v23)), .ref (q 20), .ref (q 21), .ref (q 22), .ref (q 23), .int (M_shotAlarm (M_ex v23)), .int (M_drawn (M_ex v23))]), ((q 1), aI K 700 (M_tape (M_tp v23))), ((q 2), aI K 20 (M_number (M_cd v23))), ((q 3), aZ K 5 (M_isTold (M_rd v23))), ((q 4), aI K 80 (M_codeSort (M_cd v23))), ((q 5), aI K 80 (M_codeA (M_cd v23))), ((q 6), aI K 80 (M_codeB (M_cd v23))), ((q 7), aI K 80 (M_codeC (M_cd v23))), ((q 8), aI K 80 (M_codeName (M_cd v23))), ((q 9), aI K 80 (M_codePlace (M_cd v23))), ((q 10), aI K 80 (M_codeTo (M_cd v23))), ((q 11), aI K 280 (M_labelName (M_cd v23))), ((q 12), aI K 280 (M_labelAt (M_cd v23))), ((q 13), aI K 64 (M_data (M_cd v23))), ((q 14), aZ K 32 (M_hasData (M_rd v23))), ((q 15), aI K 314 (M_s (M_rn v23))), ((q 16), aI K 314 (M_aside (M_ex v23))), ((q 17), aI K 314 (M_further (M_ex v23))), ((q 18), aI K 314 (M_image (M_im v23))), ((q 19), aI K 3 (M_sizeNow (M_rn v23))), ((q 20), aI K 8 (M_aloneRegister (M_al v23))), ((q 21), aI K 4 (M_aloneReal (M_al v23))), ((q 22), aI K 32 (M_aloneMemory (M_al v23))), ((q 23), aI K 999 (M_aloneOutput (M_al v23)))]) cx [] [] [0, 1, 2, 3, 4, 5, 6, 7, 8, 9, 10, 11, 12, 13, 14, 15, 16, 17, 18, 19, 20, 21, 22, 23] (m_M_sticks l D K q ((M_tp v13), (M_rd v13), (M_lf v13), (M_cd v13), (f22, (M_spanNow (M_rn v13)), (M_sizeNow (M_rn v13)), (M_placeThen (M_rn v13))), (M_ex v13), (M_im v13), (M_al v13), (M_thrown v13)) hc24) yv_X10_sticks wd_1667 ⟨rfl, rfl⟩ (by decide) rfl rfl rfl (by decide) 0 rfl rfl rfl (Nat.le_of_ble_eq_true rfl) dX10_stepped_711 ?_
    refine r_iload (pc := 714) cx dX10_stepped_714 2 rfl ?_
    cases hf
    exact r_iret (pc := 716) cx rfl rfl dX10_stepped_716
  by_cases h25 : x4 = (7 : Int32)
  · have hf := ifp h25 hf
    refine r_tin (pc := 65) (tgt := 136) cx (7 : Int32) h25 dX10_stepped_65 (by decide) (by decide) rfl (by decide) ?_
    refine r_aload_n (pc := 136) cx dX10_stepped_136 6 rfl ?_
    refine r_get (pc := 137) cx cf_X10 0 26 rfl (by decide) rfl wd_1342 dX10_stepped_137 ?_
    refine r_iload (pc := 140) cx dX10_stepped_140 3 rfl ?_
    refine r_aload_n (pc := 142) cx dX10_stepped_142 6 rfl ?_
    refine r_get (pc := 143) cx cf_X10 0 6 rfl (by decide) rfl wd_1322 dX10_stepped_143 ?_
    refine r_iload_n (pc := 146) cx dX10_stepped_146 5 rfl ?_
    obtain ⟨h26, hf⟩ := chk_of hf
    refine r_iald (pc := 147) cx 5 rfl h26 dX10_stepped_147 ?_
    refine r_iadd (pc := 148) cx dX10_stepped_148 ?_
    refine r_aload_n (pc := 149) cx dX10_stepped_149 6 rfl ?_
    refine r_get (pc := 150) cx cf_X10 0 7 rfl (by decide) rfl wd_1323 dX10_stepped_150 ?_
    refine r_iload_n (pc := 153) cx dX10_stepped_153 5 rfl ?_
    obtain ⟨h27, hf⟩ := chk_of hf
    refine r_iald (pc := 154) cx 6 rfl h27 dX10_stepped_154 ?_
    obtain ⟨x28, ex28, hf⟩ := nm_of hf
    refine r_nm ex28 ?_
    obtain ⟨h29, hf⟩ := chk_of hf
    obtain ⟨f30, ef30, hf⟩ := nm_of hf
    refine r_iast (pc := 155) (ws' := [((q 0), ob 9 [.int (M_thrown v), .ref (q 1), .int (M_taped (M_tp v)), .ref (q 2), .ref (q 3), .ref (q 4), .ref (q 5), .ref (q 6), .ref (q 7), .ref (q 8), .ref (q 9), .ref (q 10), .ref (q 11), .ref (q 12), .ref (q 13), .ref (q 14), .int (M_lines (M_rd v)), .int (M_size (M_rd v)), .int (M_at (M_rd v)), .int (M_place (M_rd v)), .int (M_sort (M_rd v)), .int (M_value (M_rd v)), .int (M_fault (M_rd v)), .int (M_faultPlace (M_rd v)), .int (M_lastFault (M_lf v)), .int (M_lastPlace (M_lf v)), .ref (q 15), .ref (q 16), .ref (q 17), .ref (q 18), .int (M_hasImage (M_im v)), .int (M_spanNow (M_rn v)), .ref (q 19), .int x11, .int (M_alonePlace (M_al v)), .int (M_aloneSteps (M_al v)), .int (M_aloneOut (M_al v)), .ref (q 20), .ref (q 21), .ref (q 22), .ref (q 23), .int (M_shotAlarm (M_ex v)), .int (M_drawn (M_ex v))]), ((q 1), aI K 700 (M_tape (M_tp v))), ((q 2), aI K 20 (M_number (M_cd v))), ((q 3), aZ K 5 (M_isTold (M_rd v))), ((q 4), aI K 80 (M_codeSort (M_cd v))), ((q 5), aI K 80 (M_codeA (M_cd v))), ((q 6), aI K 80 (M_codeB (M_cd v))), ((q 7), aI K 80 (M_codeC (M_cd v))), ((q 8), aI K 80 (M_codeName (M_cd v))), ((q 9), aI K 80 (M_codePlace (M_cd v))), ((q 10), aI K 80 (M_codeTo (M_cd v))), ((q 11), aI K 280 (M_labelName (M_cd v))), ((q 12), aI K 280 (M_labelAt (M_cd v))), ((q 13), aI K 64 (M_data (M_cd v))), ((q 14), aZ K 32 (M_hasData (M_rd v))), ((q 15), aI K 314 f30), ((q 16), aI K 314 (M_aside (M_ex v))), ((q 17), aI K 314 (M_further (M_ex v))), ((q 18), aI K 314 (M_image (M_im v))), ((q 19), aI K 3 (M_sizeNow (M_rn v))), ((q 20), aI K 8 (M_aloneRegister (M_al v))), ((q 21), aI K 4 (M_aloneReal (M_al v))), ((q 22), aI K 32 (M_aloneMemory (M_al v))), ((q 23), aI K 999 (M_aloneOutput (M_al v)))]) cx 15 rfl h29 dX10_stepped_155 ef30 rfl ?_
    refine r_goto (pc := 156) (tgt := 686) cx dX10_stepped_156 (by decide) ?_
    refine r_loc (loc' := [(0, .ref (q 0)), (1, .int a1), (7, .int (0 : Int32))]) [6, 7, 0] rfl ?_
    exact hJ14 _ _ hf
  · have hf := ifn h25 hf
    by_cases h31 : x4 = (8 : Int32)
    · have hf := ifp h31 hf
      refine r_tin (pc := 65) (tgt := 159) cx (8 : Int32) h31 dX10_stepped_65 (by decide) (by decide) rfl (by decide) ?_
      refine r_aload_n (pc := 159) cx dX10_stepped_159 6 rfl ?_
      refine r_get (pc := 160) cx cf_X10 0 26 rfl (by decide) rfl wd_1342 dX10_stepped_160 ?_
      refine r_iload (pc := 163) cx dX10_stepped_163 3 rfl ?_
      refine r_aload_n (pc := 165) cx dX10_stepped_165 6 rfl ?_
      refine r_get (pc := 166) cx cf_X10 0 6 rfl (by decide) rfl wd_1322 dX10_stepped_166 ?_
      refine r_iload_n (pc := 169) cx dX10_stepped_169 5 rfl ?_
      obtain ⟨h32, hf⟩ := chk_of hf
      refine r_iald (pc := 170) cx 5 rfl h32 dX10_stepped_170 ?_
      refine r_iadd (pc := 171) cx dX10_stepped_171 ?_
      refine r_iload (pc := 172) cx dX10_stepped_172 1 rfl ?_
      refine r_aload_n (pc := 174) cx dX10_stepped_174 6 rfl ?_
      refine r_get (pc := 175) cx cf_X10 0 26 rfl (by decide) rfl wd_1342 dX10_stepped_175 ?_
      refine r_iload (pc := 178) cx dX10_stepped_178 3 rfl ?_
      refine r_aload_n (pc := 180) cx dX10_stepped_180 6 rfl ?_
      refine r_get (pc := 181) cx cf_X10 0 8 rfl (by decide) rfl wd_1324 dX10_stepped_181 ?_
      refine r_iload_n (pc := 184) cx dX10_stepped_184 5 rfl ?_
      obtain ⟨h33, hf⟩ := chk_of hf
      refine r_iald (pc := 185) cx 7 rfl h33 dX10_stepped_185 ?_
      refine r_iadd (pc := 186) cx dX10_stepped_186 ?_
      obtain ⟨h34, hf⟩ := chk_of hf
      refine r_iald (pc := 187) cx 15 rfl h34 dX10_stepped_187 ?_
      refine r_iadd (pc := 188) cx dX10_stepped_188 ?_
      obtain ⟨x35, ex35, hf⟩ := nm_of hf
      refine r_nm ex35 ?_
      obtain ⟨h36, hf⟩ := chk_of hf
      obtain ⟨f37, ef37, hf⟩ := nm_of hf
      refine r_iast (pc := 189) (ws' := [((q 0), ob 9 [.int (M_thrown v), .ref (q 1), .int (M_taped (M_tp v)), .ref (q 2), .ref (q 3), .ref (q 4), .ref (q 5), .ref (q 6), .ref (q 7), .ref (q 8), .ref (q 9), .ref (q 10), .ref (q 11), .ref (q 12), .ref (q 13), .ref (q 14), .int (M_lines (M_rd v)), .int (M_size (M_rd v)), .int (M_at (M_rd v)), .int (M_place (M_rd v)), .int (M_sort (M_rd v)), .int (M_value (M_rd v)), .int (M_fault (M_rd v)), .int (M_faultPlace (M_rd v)), .int (M_lastFault (M_lf v)), .int (M_lastPlace (M_lf v)), .ref (q 15), .ref (q 16), .ref (q 17), .ref (q 18), .int (M_hasImage (M_im v)), .int (M_spanNow (M_rn v)), .ref (q 19), .int x11, .int (M_alonePlace (M_al v)), .int (M_aloneSteps (M_al v)), .int (M_aloneOut (M_al v)), .ref (q 20), .ref (q 21), .ref (q 22), .ref (q 23), .int (M_shotAlarm (M_ex v)), .int (M_drawn (M_ex v))]), ((q 1), aI K 700 (M_tape (M_tp v))), ((q 2), aI K 20 (M_number (M_cd v))), ((q 3), aZ K 5 (M_isTold (M_rd v))), ((q 4), aI K 80 (M_codeSort (M_cd v))), ((q 5), aI K 80 (M_codeA (M_cd v))), ((q 6), aI K 80 (M_codeB (M_cd v))), ((q 7), aI K 80 (M_codeC (M_cd v))), ((q 8), aI K 80 (M_codeName (M_cd v))), ((q 9), aI K 80 (M_codePlace (M_cd v))), ((q 10), aI K 80 (M_codeTo (M_cd v))), ((q 11), aI K 280 (M_labelName (M_cd v))), ((q 12), aI K 280 (M_labelAt (M_cd v))), ((q 13), aI K 64 (M_data (M_cd v))), ((q 14), aZ K 32 (M_hasData (M_rd v))), ((q 15), aI K 314 f37), ((q 16), aI K 314 (M_aside (M_ex v))), ((q 17), aI K 314 (M_further (M_ex v))), ((q 18), aI K 314 (M_image (M_im v))), ((q 19), aI K 3 (M_sizeNow (M_rn v))), ((q 20), aI K 8 (M_aloneRegister (M_al v))), ((q 21), aI K 4 (M_aloneReal (M_al v))), ((q 22), aI K 32 (M_aloneMemory (M_al v))), ((q 23), aI K 999 (M_aloneOutput (M_al v)))]) cx 15 rfl h36 dX10_stepped_189 ef37 rfl ?_
      refine r_goto (pc := 190) (tgt := 686) cx dX10_stepped_190 (by decide) ?_
      refine r_loc (loc' := [(0, .ref (q 0)), (1, .int a1), (7, .int (0 : Int32))]) [6, 7, 0] rfl ?_
      exact hJ14 _ _ hf
    · have hf := ifn h31 hf
      by_cases h38 : x4 = (9 : Int32)
      · have hf := ifp h38 hf
        refine r_tin (pc := 65) (tgt := 193) cx (9 : Int32) h38 dX10_stepped_65 (by decide) (by decide) rfl (by decide) ?_
        refine r_aload_n (pc := 193) cx dX10_stepped_193 6 rfl ?_
        refine r_get (pc := 194) cx cf_X10 0 26 rfl (by decide) rfl wd_1342 dX10_stepped_194 ?_
        refine r_iload (pc := 197) cx dX10_stepped_197 3 rfl ?_
        refine r_aload_n (pc := 199) cx dX10_stepped_199 6 rfl ?_
        refine r_get (pc := 200) cx cf_X10 0 6 rfl (by decide) rfl wd_1322 dX10_stepped_200 ?_
        refine r_iload_n (pc := 203) cx dX10_stepped_203 5 rfl ?_
        obtain ⟨h39, hf⟩ := chk_of hf
        refine r_iald (pc := 204) cx 5 rfl h39 dX10_stepped_204 ?_
        refine r_iadd (pc := 205) cx dX10_stepped_205 ?_
        refine r_iload (pc := 206) cx dX10_stepped_206 1 rfl ?_
        refine r_aload_n (pc := 208) cx dX10_stepped_208 6 rfl ?_
        refine r_get (pc := 209) cx cf_X10 0 26 rfl (by decide) rfl wd_1342 dX10_stepped_209 ?_
        refine r_iload (pc := 212) cx dX10_stepped_212 3 rfl ?_
        refine r_aload_n (pc := 214) cx dX10_stepped_214 6 rfl ?_
        refine r_get (pc := 215) cx cf_X10 0 8 rfl (by decide) rfl wd_1324 dX10_stepped_215 ?_
        refine r_iload_n (pc := 218) cx dX10_stepped_218 5 rfl ?_
        obtain ⟨h40, hf⟩ := chk_of hf
        refine r_iald (pc := 219) cx 7 rfl h40 dX10_stepped_219 ?_
        refine r_iadd (pc := 220) cx dX10_stepped_220 ?_
        obtain ⟨h41, hf⟩ := chk_of hf
        refine r_iald (pc := 221) cx 15 rfl h41 dX10_stepped_221 ?_
        refine r_isub (pc := 222) cx dX10_stepped_222 ?_
        obtain ⟨x42, ex42, hf⟩ := nm_of hf
        refine r_nm ex42 ?_
        obtain ⟨h43, hf⟩ := chk_of hf
        obtain ⟨f44, ef44, hf⟩ := nm_of hf
        refine r_iast (pc := 223) (ws' := [((q 0), ob 9 [.int (M_thrown v), .ref (q 1), .int (M_taped (M_tp v)), .ref (q 2), .ref (q 3), .ref (q 4), .ref (q 5), .ref (q 6), .ref (q 7), .ref (q 8), .ref (q 9), .ref (q 10), .ref (q 11), .ref (q 12), .ref (q 13), .ref (q 14), .int (M_lines (M_rd v)), .int (M_size (M_rd v)), .int (M_at (M_rd v)), .int (M_place (M_rd v)), .int (M_sort (M_rd v)), .int (M_value (M_rd v)), .int (M_fault (M_rd v)), .int (M_faultPlace (M_rd v)), .int (M_lastFault (M_lf v)), .int (M_lastPlace (M_lf v)), .ref (q 15), .ref (q 16), .ref (q 17), .ref (q 18), .int (M_hasImage (M_im v)), .int (M_spanNow (M_rn v)), .ref (q 19), .int x11, .int (M_alonePlace (M_al v)), .int (M_aloneSteps (M_al v)), .int (M_aloneOut (M_al v)), .ref (q 20), .ref (q 21), .ref (q 22), .ref (q 23), .int (M_shotAlarm (M_ex v)), .int (M_drawn (M_ex v))]), ((q 1), aI K 700 (M_tape (M_tp v))), ((q 2), aI K 20 (M_number (M_cd v))), ((q 3), aZ K 5 (M_isTold (M_rd v))), ((q 4), aI K 80 (M_codeSort (M_cd v))), ((q 5), aI K 80 (M_codeA (M_cd v))), ((q 6), aI K 80 (M_codeB (M_cd v))), ((q 7), aI K 80 (M_codeC (M_cd v))), ((q 8), aI K 80 (M_codeName (M_cd v))), ((q 9), aI K 80 (M_codePlace (M_cd v))), ((q 10), aI K 80 (M_codeTo (M_cd v))), ((q 11), aI K 280 (M_labelName (M_cd v))), ((q 12), aI K 280 (M_labelAt (M_cd v))), ((q 13), aI K 64 (M_data (M_cd v))), ((q 14), aZ K 32 (M_hasData (M_rd v))), ((q 15), aI K 314 f44), ((q 16), aI K 314 (M_aside (M_ex v))), ((q 17), aI K 314 (M_further (M_ex v))), ((q 18), aI K 314 (M_image (M_im v))), ((q 19), aI K 3 (M_sizeNow (M_rn v))), ((q 20), aI K 8 (M_aloneRegister (M_al v))), ((q 21), aI K 4 (M_aloneReal (M_al v))), ((q 22), aI K 32 (M_aloneMemory (M_al v))), ((q 23), aI K 999 (M_aloneOutput (M_al v)))]) cx 15 rfl h43 dX10_stepped_223 ef44 rfl ?_
        refine r_goto (pc := 224) (tgt := 686) cx dX10_stepped_224 (by decide) ?_
        refine r_loc (loc' := [(0, .ref (q 0)), (1, .int a1), (7, .int (0 : Int32))]) [6, 7, 0] rfl ?_
        exact hJ14 _ _ hf
      · have hf := ifn h38 hf
        by_cases h45 : x4 = (10 : Int32)
        · have hf := ifp h45 hf
          refine r_tin (pc := 65) (tgt := 227) cx (10 : Int32) h45 dX10_stepped_65 (by decide) (by decide) rfl (by decide) ?_
          refine r_aload_n (pc := 227) cx dX10_stepped_227 6 rfl ?_
          refine r_get (pc := 228) cx cf_X10 0 26 rfl (by decide) rfl wd_1342 dX10_stepped_228 ?_
          refine r_iload (pc := 231) cx dX10_stepped_231 3 rfl ?_
          refine r_aload_n (pc := 233) cx dX10_stepped_233 6 rfl ?_
          refine r_get (pc := 234) cx cf_X10 0 6 rfl (by decide) rfl wd_1322 dX10_stepped_234 ?_
          refine r_iload_n (pc := 237) cx dX10_stepped_237 5 rfl ?_
          obtain ⟨h46, hf⟩ := chk_of hf
          refine r_iald (pc := 238) cx 5 rfl h46 dX10_stepped_238 ?_
          refine r_iadd (pc := 239) cx dX10_stepped_239 ?_
          refine r_iload (pc := 240) cx dX10_stepped_240 1 rfl ?_
          refine r_aload_n (pc := 242) cx dX10_stepped_242 6 rfl ?_
          refine r_get (pc := 243) cx cf_X10 0 26 rfl (by decide) rfl wd_1342 dX10_stepped_243 ?_
          refine r_iload (pc := 246) cx dX10_stepped_246 3 rfl ?_
          refine r_aload_n (pc := 248) cx dX10_stepped_248 6 rfl ?_
          refine r_get (pc := 249) cx cf_X10 0 8 rfl (by decide) rfl wd_1324 dX10_stepped_249 ?_
          refine r_iload_n (pc := 252) cx dX10_stepped_252 5 rfl ?_
          obtain ⟨h47, hf⟩ := chk_of hf
          refine r_iald (pc := 253) cx 7 rfl h47 dX10_stepped_253 ?_
          refine r_iadd (pc := 254) cx dX10_stepped_254 ?_
          obtain ⟨h48, hf⟩ := chk_of hf
          refine r_iald (pc := 255) cx 15 rfl h48 dX10_stepped_255 ?_
          refine r_imul (pc := 256) cx dX10_stepped_256 ?_
          obtain ⟨x49, ex49, hf⟩ := nm_of hf
          refine r_nm ex49 ?_
          obtain ⟨h50, hf⟩ := chk_of hf
          obtain ⟨f51, ef51, hf⟩ := nm_of hf
          refine r_iast (pc := 257) (ws' := [((q 0), ob 9 [.int (M_thrown v), .ref (q 1), .int (M_taped (M_tp v)), .ref (q 2), .ref (q 3), .ref (q 4), .ref (q 5), .ref (q 6), .ref (q 7), .ref (q 8), .ref (q 9), .ref (q 10), .ref (q 11), .ref (q 12), .ref (q 13), .ref (q 14), .int (M_lines (M_rd v)), .int (M_size (M_rd v)), .int (M_at (M_rd v)), .int (M_place (M_rd v)), .int (M_sort (M_rd v)), .int (M_value (M_rd v)), .int (M_fault (M_rd v)), .int (M_faultPlace (M_rd v)), .int (M_lastFault (M_lf v)), .int (M_lastPlace (M_lf v)), .ref (q 15), .ref (q 16), .ref (q 17), .ref (q 18), .int (M_hasImage (M_im v)), .int (M_spanNow (M_rn v)), .ref (q 19), .int x11, .int (M_alonePlace (M_al v)), .int (M_aloneSteps (M_al v)), .int (M_aloneOut (M_al v)), .ref (q 20), .ref (q 21), .ref (q 22), .ref (q 23), .int (M_shotAlarm (M_ex v)), .int (M_drawn (M_ex v))]), ((q 1), aI K 700 (M_tape (M_tp v))), ((q 2), aI K 20 (M_number (M_cd v))), ((q 3), aZ K 5 (M_isTold (M_rd v))), ((q 4), aI K 80 (M_codeSort (M_cd v))), ((q 5), aI K 80 (M_codeA (M_cd v))), ((q 6), aI K 80 (M_codeB (M_cd v))), ((q 7), aI K 80 (M_codeC (M_cd v))), ((q 8), aI K 80 (M_codeName (M_cd v))), ((q 9), aI K 80 (M_codePlace (M_cd v))), ((q 10), aI K 80 (M_codeTo (M_cd v))), ((q 11), aI K 280 (M_labelName (M_cd v))), ((q 12), aI K 280 (M_labelAt (M_cd v))), ((q 13), aI K 64 (M_data (M_cd v))), ((q 14), aZ K 32 (M_hasData (M_rd v))), ((q 15), aI K 314 f51), ((q 16), aI K 314 (M_aside (M_ex v))), ((q 17), aI K 314 (M_further (M_ex v))), ((q 18), aI K 314 (M_image (M_im v))), ((q 19), aI K 3 (M_sizeNow (M_rn v))), ((q 20), aI K 8 (M_aloneRegister (M_al v))), ((q 21), aI K 4 (M_aloneReal (M_al v))), ((q 22), aI K 32 (M_aloneMemory (M_al v))), ((q 23), aI K 999 (M_aloneOutput (M_al v)))]) cx 15 rfl h50 dX10_stepped_257 ef51 rfl ?_
          refine r_goto (pc := 258) (tgt := 686) cx dX10_stepped_258 (by decide) ?_
          refine r_loc (loc' := [(0, .ref (q 0)), (1, .int a1), (7, .int (0 : Int32))]) [6, 7, 0] rfl ?_
          exact hJ14 _ _ hf
        · have hf := ifn h45 hf
          by_cases h52 : x4 = (11 : Int32)
          · have hf := ifp h52 hf
            refine r_tin (pc := 65) (tgt := 261) cx (11 : Int32) h52 dX10_stepped_65 (by decide) (by decide) rfl (by decide) ?_
            refine r_aload_n (pc := 261) cx dX10_stepped_261 6 rfl ?_
            refine r_get (pc := 262) cx cf_X10 0 26 rfl (by decide) rfl wd_1342 dX10_stepped_262 ?_
            refine r_iload (pc := 265) cx dX10_stepped_265 3 rfl ?_
            refine r_aload_n (pc := 267) cx dX10_stepped_267 6 rfl ?_
            refine r_get (pc := 268) cx cf_X10 0 6 rfl (by decide) rfl wd_1322 dX10_stepped_268 ?_
            refine r_iload_n (pc := 271) cx dX10_stepped_271 5 rfl ?_
            obtain ⟨h53, hf⟩ := chk_of hf
            refine r_iald (pc := 272) cx 5 rfl h53 dX10_stepped_272 ?_
            refine r_iadd (pc := 273) cx dX10_stepped_273 ?_
            refine r_iload (pc := 274) cx dX10_stepped_274 1 rfl ?_
            refine r_aload_n (pc := 276) cx dX10_stepped_276 6 rfl ?_
            refine r_get (pc := 277) cx cf_X10 0 26 rfl (by decide) rfl wd_1342 dX10_stepped_277 ?_
            refine r_iload (pc := 280) cx dX10_stepped_280 3 rfl ?_
            refine r_aload_n (pc := 282) cx dX10_stepped_282 6 rfl ?_
            refine r_get (pc := 283) cx cf_X10 0 8 rfl (by decide) rfl wd_1324 dX10_stepped_283 ?_
            refine r_iload_n (pc := 286) cx dX10_stepped_286 5 rfl ?_
            obtain ⟨h54, hf⟩ := chk_of hf
            refine r_iald (pc := 287) cx 7 rfl h54 dX10_stepped_287 ?_
            refine r_iadd (pc := 288) cx dX10_stepped_288 ?_
            obtain ⟨h55, hf⟩ := chk_of hf
            refine r_iald (pc := 289) cx 15 rfl h55 dX10_stepped_289 ?_
            refine r_ixor (pc := 290) cx dX10_stepped_290 ?_
            obtain ⟨x56, ex56, hf⟩ := nm_of hf
            refine r_nm ex56 ?_
            obtain ⟨h57, hf⟩ := chk_of hf
            obtain ⟨f58, ef58, hf⟩ := nm_of hf
            refine r_iast (pc := 291) (ws' := [((q 0), ob 9 [.int (M_thrown v), .ref (q 1), .int (M_taped (M_tp v)), .ref (q 2), .ref (q 3), .ref (q 4), .ref (q 5), .ref (q 6), .ref (q 7), .ref (q 8), .ref (q 9), .ref (q 10), .ref (q 11), .ref (q 12), .ref (q 13), .ref (q 14), .int (M_lines (M_rd v)), .int (M_size (M_rd v)), .int (M_at (M_rd v)), .int (M_place (M_rd v)), .int (M_sort (M_rd v)), .int (M_value (M_rd v)), .int (M_fault (M_rd v)), .int (M_faultPlace (M_rd v)), .int (M_lastFault (M_lf v)), .int (M_lastPlace (M_lf v)), .ref (q 15), .ref (q 16), .ref (q 17), .ref (q 18), .int (M_hasImage (M_im v)), .int (M_spanNow (M_rn v)), .ref (q 19), .int x11, .int (M_alonePlace (M_al v)), .int (M_aloneSteps (M_al v)), .int (M_aloneOut (M_al v)), .ref (q 20), .ref (q 21), .ref (q 22), .ref (q 23), .int (M_shotAlarm (M_ex v)), .int (M_drawn (M_ex v))]), ((q 1), aI K 700 (M_tape (M_tp v))), ((q 2), aI K 20 (M_number (M_cd v))), ((q 3), aZ K 5 (M_isTold (M_rd v))), ((q 4), aI K 80 (M_codeSort (M_cd v))), ((q 5), aI K 80 (M_codeA (M_cd v))), ((q 6), aI K 80 (M_codeB (M_cd v))), ((q 7), aI K 80 (M_codeC (M_cd v))), ((q 8), aI K 80 (M_codeName (M_cd v))), ((q 9), aI K 80 (M_codePlace (M_cd v))), ((q 10), aI K 80 (M_codeTo (M_cd v))), ((q 11), aI K 280 (M_labelName (M_cd v))), ((q 12), aI K 280 (M_labelAt (M_cd v))), ((q 13), aI K 64 (M_data (M_cd v))), ((q 14), aZ K 32 (M_hasData (M_rd v))), ((q 15), aI K 314 f58), ((q 16), aI K 314 (M_aside (M_ex v))), ((q 17), aI K 314 (M_further (M_ex v))), ((q 18), aI K 314 (M_image (M_im v))), ((q 19), aI K 3 (M_sizeNow (M_rn v))), ((q 20), aI K 8 (M_aloneRegister (M_al v))), ((q 21), aI K 4 (M_aloneReal (M_al v))), ((q 22), aI K 32 (M_aloneMemory (M_al v))), ((q 23), aI K 999 (M_aloneOutput (M_al v)))]) cx 15 rfl h57 dX10_stepped_291 ef58 rfl ?_
            refine r_goto (pc := 292) (tgt := 686) cx dX10_stepped_292 (by decide) ?_
            refine r_loc (loc' := [(0, .ref (q 0)), (1, .int a1), (7, .int (0 : Int32))]) [6, 7, 0] rfl ?_
            exact hJ14 _ _ hf
          · have hf := ifn h52 hf
            by_cases h59 : x4 = (12 : Int32)
            · have hf := ifp h59 hf
              refine r_tin (pc := 65) (tgt := 295) cx (12 : Int32) h59 dX10_stepped_65 (by decide) (by decide) rfl (by decide) ?_
              refine r_iload_n (pc := 295) cx dX10_stepped_295 7 rfl ?_
              refine r_if_ne (pc := 296) (tgt := 307) cx dX10_stepped_296 (by decide) (fun h60 => ?_) (fun h60 => ?_)
              · have hf := ifn h60 hf
                refine r_aload_n (pc := 307) cx dX10_stepped_307 6 rfl ?_
                refine r_iload_n (pc := 308) cx dX10_stepped_308 5 rfl ?_
                obtain ⟨r61, v62, hc63, hf⟩ := bd2_of hf
                refine r_Vi (pc := 309) (ws' := [((q 0), ob 9 [.int (M_thrown v62), .ref (q 1), .int (M_taped (M_tp v62)), .ref (q 2), .ref (q 3), .ref (q 4), .ref (q 5), .ref (q 6), .ref (q 7), .ref (q 8), .ref (q 9), .ref (q 10), .ref (q 11), .ref (q 12), .ref (q 13), .ref (q 14), .int (M_lines (M_rd v62)), .int (M_size (M_rd v62)), .int (M_at (M_rd v62)), .int (M_place (M_rd v62)), .int (M_sort (M_rd v62)), .int (M_value (M_rd v62)), .int (M_fault (M_rd v62)), .int (M_faultPlace (M_rd v62)), .int (M_lastFault (M_lf v62)), .int (M_lastPlace (M_lf v62)), .ref (q 15), .ref (q 16), .ref (q 17), .ref (q 18), .int (M_hasImage (M_im v62)), .int (M_spanNow (M_rn v62)), .ref (q 19), .int (M_placeThen (M_rn v62)), .int (M_alonePlace (M_al v62)), .int (M_aloneSteps (M_al v62)), .int (M_aloneOut (M_al v62)), .ref (q 20), .ref (q 21), .ref (q 22), .ref (q 23), .int (M_shotAlarm (M_ex v62)), .int (M_drawn (M_ex v62))]), ((q 1), aI K 700 (M_tape (M_tp v62))), ((q 2), aI K 20 (M_number (M_cd v62))), ((q 3), aZ K 5 (M_isTold (M_rd v62))), ((q 4), aI K 80 (M_codeSort (M_cd v62))), ((q 5), aI K 80 (M_codeA (M_cd v62))), ((q 6), aI K 80 (M_codeB (M_cd v62))), ((q 7), aI K 80 (M_codeC (M_cd v62))), ((q 8), aI K 80 (M_codeName (M_cd v62))), ((q 9), aI K 80 (M_codePlace (M_cd v62))), ((q 10), aI K 80 (M_codeTo (M_cd v62))), ((q 11), aI K 280 (M_labelName (M_cd v62))), ((q 12), aI K 280 (M_labelAt (M_cd v62))), ((q 13), aI K 64 (M_data (M_cd v62))), ((q 14), aZ K 32 (M_hasData (M_rd v62))), ((q 15), aI K 314 (M_s (M_rn v62))), ((q 16), aI K 314 (M_aside (M_ex v62))), ((q 17), aI K 314 (M_further (M_ex v62))), ((q 18), aI K 314 (M_image (M_im v62))), ((q 19), aI K 3 (M_sizeNow (M_rn v62))), ((q 20), aI K 8 (M_aloneRegister (M_al v62))), ((q 21), aI K 4 (M_aloneReal (M_al v62))), ((q 22), aI K 32 (M_aloneMemory (M_al v62))), ((q 23), aI K 999 (M_aloneOutput (M_al v62)))]) cx [.int x2] [] [0, 1, 2, 3, 4, 5, 6, 7, 8, 9, 10, 11, 12, 13, 14, 15, 16, 17, 18, 19, 20, 21, 22, 23] (m_M_trailerLoads l D K q ((M_tp v), (M_rd v), (M_lf v), (M_cd v), ((M_s (M_rn v)), (M_spanNow (M_rn v)), (M_sizeNow (M_rn v)), x11), (M_ex v), (M_im v), (M_al v), (M_thrown v)) x2 hc63) yv_X10_trailerLoads wd_1615 ⟨rfl, rfl⟩ (by decide) rfl rfl rfl (by decide) 0 rfl rfl rfl (Nat.le_of_ble_eq_true rfl) dX10_stepped_309 ?_
                refine r_istore (pc := 312) (loc' := [(7, .int r61), (6, .int x10), (5, .int x6), (4, .int x5), (3, .int x4), (2, .int x2), (0, .ref (q 0)), (1, .int a1)]) cx dX10_stepped_312 (by decide) rfl ?_
                refine r_goto (pc := 314) (tgt := 686) cx dX10_stepped_314 (by decide) ?_
                refine r_loc (loc' := [(0, .ref (q 0)), (1, .int a1), (7, .int r61)]) [6, 7, 0] rfl ?_
                exact hJ14 _ _ hf
              · have hf := ifp h60 hf
                refine r_aload_n (pc := 299) cx dX10_stepped_299 6 rfl ?_
                refine r_iload_n (pc := 300) cx dX10_stepped_300 5 rfl ?_
                obtain ⟨r64, v65, hc66, hf⟩ := bd2_of hf
                refine r_Vi (pc := 301) (ws' := [((q 0), ob 9 [.int (M_thrown v65), .ref (q 1), .int (M_taped (M_tp v65)), .ref (q 2), .ref (q 3), .ref (q 4), .ref (q 5), .ref (q 6), .ref (q 7), .ref (q 8), .ref (q 9), .ref (q 10), .ref (q 11), .ref (q 12), .ref (q 13), .ref (q 14), .int (M_lines (M_rd v65)), .int (M_size (M_rd v65)), .int (M_at (M_rd v65)), .int (M_place (M_rd v65)), .int (M_sort (M_rd v65)), .int (M_value (M_rd v65)), .int (M_fault (M_rd v65)), .int (M_faultPlace (M_rd v65)), .int (M_lastFault (M_lf v65)), .int (M_lastPlace (M_lf v65)), .ref (q 15), .ref (q 16), .ref (q 17), .ref (q 18), .int (M_hasImage (M_im v65)), .int (M_spanNow (M_rn v65)), .ref (q 19), .int (M_placeThen (M_rn v65)), .int (M_alonePlace (M_al v65)), .int (M_aloneSteps (M_al v65)), .int (M_aloneOut (M_al v65)), .ref (q 20), .ref (q 21), .ref (q 22), .ref (q 23), .int (M_shotAlarm (M_ex v65)), .int (M_drawn (M_ex v65))]), ((q 1), aI K 700 (M_tape (M_tp v65))), ((q 2), aI K 20 (M_number (M_cd v65))), ((q 3), aZ K 5 (M_isTold (M_rd v65))), ((q 4), aI K 80 (M_codeSort (M_cd v65))), ((q 5), aI K 80 (M_codeA (M_cd v65))), ((q 6), aI K 80 (M_codeB (M_cd v65))), ((q 7), aI K 80 (M_codeC (M_cd v65))), ((q 8), aI K 80 (M_codeName (M_cd v65))), ((q 9), aI K 80 (M_codePlace (M_cd v65))), ((q 10), aI K 80 (M_codeTo (M_cd v65))), ((q 11), aI K 280 (M_labelName (M_cd v65))), ((q 12), aI K 280 (M_labelAt (M_cd v65))), ((q 13), aI K 64 (M_data (M_cd v65))), ((q 14), aZ K 32 (M_hasData (M_rd v65))), ((q 15), aI K 314 (M_s (M_rn v65))), ((q 16), aI K 314 (M_aside (M_ex v65))), ((q 17), aI K 314 (M_further (M_ex v65))), ((q 18), aI K 314 (M_image (M_im v65))), ((q 19), aI K 3 (M_sizeNow (M_rn v65))), ((q 20), aI K 8 (M_aloneRegister (M_al v65))), ((q 21), aI K 4 (M_aloneReal (M_al v65))), ((q 22), aI K 32 (M_aloneMemory (M_al v65))), ((q 23), aI K 999 (M_aloneOutput (M_al v65)))]) cx [.int x2] [] [0, 1, 2, 3, 4, 5, 6, 7, 8, 9, 10, 11, 12, 13, 14, 15, 16, 17, 18, 19, 20, 21, 22, 23] (m_M_leaderLoads l D K q ((M_tp v), (M_rd v), (M_lf v), (M_cd v), ((M_s (M_rn v)), (M_spanNow (M_rn v)), (M_sizeNow (M_rn v)), x11), (M_ex v), (M_im v), (M_al v), (M_thrown v)) x2 hc66) yv_X10_leaderLoads wd_1607 ⟨rfl, rfl⟩ (by decide) rfl rfl rfl (by decide) 0 rfl rfl rfl (Nat.le_of_ble_eq_true rfl) dX10_stepped_301 ?_
                refine r_goto (pc := 304) (tgt := 312) cx dX10_stepped_304 (by decide) ?_
                refine r_istore (pc := 312) (loc' := [(7, .int r64), (6, .int x10), (5, .int x6), (4, .int x5), (3, .int x4), (2, .int x2), (0, .ref (q 0)), (1, .int a1)]) cx dX10_stepped_312 (by decide) rfl ?_
                refine r_goto (pc := 314) (tgt := 686) cx dX10_stepped_314 (by decide) ?_
                refine r_loc (loc' := [(0, .ref (q 0)), (1, .int a1), (7, .int r64)]) [6, 7, 0] rfl ?_
                exact hJ14 _ _ hf
            · have hf := ifn h59 hf
              by_cases h67 : x4 = (13 : Int32)
              · have hf := ifp h67 hf
                refine r_tin (pc := 65) (tgt := 317) cx (13 : Int32) h67 dX10_stepped_65 (by decide) (by decide) rfl (by decide) ?_
                refine r_iload_n (pc := 317) cx dX10_stepped_317 7 rfl ?_
                refine r_if_ne (pc := 318) (tgt := 348) cx dX10_stepped_318 (by decide) (fun h68 => ?_) (fun h68 => ?_)
                · have hf := ifn h68 hf
                  refine r_aload_n (pc := 348) cx dX10_stepped_348 6 rfl ?_
                  refine r_aload_n (pc := 349) cx dX10_stepped_349 6 rfl ?_
                  refine r_iconst (pc := 350) cx dX10_stepped_350 ic_1 ?_
                  refine r_iload_n (pc := 351) cx dX10_stepped_351 5 rfl ?_
                  obtain ⟨r69, hc70, hf⟩ := bd_of hf
                  refine r_Vi (pc := 352) (ws' := [((q 0), ob 9 [.int (M_thrown v), .ref (q 1), .int (M_taped (M_tp v)), .ref (q 2), .ref (q 3), .ref (q 4), .ref (q 5), .ref (q 6), .ref (q 7), .ref (q 8), .ref (q 9), .ref (q 10), .ref (q 11), .ref (q 12), .ref (q 13), .ref (q 14), .int (M_lines (M_rd v)), .int (M_size (M_rd v)), .int (M_at (M_rd v)), .int (M_place (M_rd v)), .int (M_sort (M_rd v)), .int (M_value (M_rd v)), .int (M_fault (M_rd v)), .int (M_faultPlace (M_rd v)), .int (M_lastFault (M_lf v)), .int (M_lastPlace (M_lf v)), .ref (q 15), .ref (q 16), .ref (q 17), .ref (q 18), .int (M_hasImage (M_im v)), .int (M_spanNow (M_rn v)), .ref (q 19), .int x11, .int (M_alonePlace (M_al v)), .int (M_aloneSteps (M_al v)), .int (M_aloneOut (M_al v)), .ref (q 20), .ref (q 21), .ref (q 22), .ref (q 23), .int (M_shotAlarm (M_ex v)), .int (M_drawn (M_ex v))]), ((q 1), aI K 700 (M_tape (M_tp v))), ((q 2), aI K 20 (M_number (M_cd v))), ((q 3), aZ K 5 (M_isTold (M_rd v))), ((q 4), aI K 80 (M_codeSort (M_cd v))), ((q 5), aI K 80 (M_codeA (M_cd v))), ((q 6), aI K 80 (M_codeB (M_cd v))), ((q 7), aI K 80 (M_codeC (M_cd v))), ((q 8), aI K 80 (M_codeName (M_cd v))), ((q 9), aI K 80 (M_codePlace (M_cd v))), ((q 10), aI K 80 (M_codeTo (M_cd v))), ((q 11), aI K 280 (M_labelName (M_cd v))), ((q 12), aI K 280 (M_labelAt (M_cd v))), ((q 13), aI K 64 (M_data (M_cd v))), ((q 14), aZ K 32 (M_hasData (M_rd v))), ((q 15), aI K 314 (M_s (M_rn v))), ((q 16), aI K 314 (M_aside (M_ex v))), ((q 17), aI K 314 (M_further (M_ex v))), ((q 18), aI K 314 (M_image (M_im v))), ((q 19), aI K 3 (M_sizeNow (M_rn v))), ((q 20), aI K 8 (M_aloneRegister (M_al v))), ((q 21), aI K 4 (M_aloneReal (M_al v))), ((q 22), aI K 32 (M_aloneMemory (M_al v))), ((q 23), aI K 999 (M_aloneOutput (M_al v)))]) cx [.int (1 : Int32), .int x2] [.ref (q 0)] [0, 1, 2, 3, 4, 5, 6, 7, 8, 9, 10, 11, 12, 13, 14, 15, 16, 17, 18, 19, 20, 21, 22, 23] (m_M_addressOf l D K q ((M_tp v), (M_rd v), (M_lf v), (M_cd v), ((M_s (M_rn v)), (M_spanNow (M_rn v)), (M_sizeNow (M_rn v)), x11), (M_ex v), (M_im v), (M_al v), (M_thrown v)) (1 : Int32) x2 hc70) yv_X10_addressOf wd_1611 ⟨rfl, rfl⟩ (by decide) rfl rfl rfl (by decide) 0 rfl rfl rfl (Nat.le_of_ble_eq_true rfl) dX10_stepped_352 ?_
                  refine r_aload_n (pc := 355) cx dX10_stepped_355 6 rfl ?_
                  refine r_get (pc := 356) cx cf_X10 0 26 rfl (by decide) rfl wd_1342 dX10_stepped_356 ?_
                  refine r_iload (pc := 359) cx dX10_stepped_359 3 rfl ?_
                  refine r_aload_n (pc := 361) cx dX10_stepped_361 6 rfl ?_
                  refine r_get (pc := 362) cx cf_X10 0 6 rfl (by decide) rfl wd_1322 dX10_stepped_362 ?_
                  refine r_iload_n (pc := 365) cx dX10_stepped_365 5 rfl ?_
                  obtain ⟨h71, hf⟩ := chk_of hf
                  refine r_iald (pc := 366) cx 5 rfl h71 dX10_stepped_366 ?_
                  refine r_iadd (pc := 367) cx dX10_stepped_367 ?_
                  obtain ⟨h72, hf⟩ := chk_of hf
                  refine r_iald (pc := 368) cx 15 rfl h72 dX10_stepped_368 ?_
                  obtain ⟨r73, v74, hc75, hf⟩ := bd2_of hf
                  refine r_Vi (pc := 369) (ws' := [((q 0), ob 9 [.int (M_thrown v74), .ref (q 1), .int (M_taped (M_tp v74)), .ref (q 2), .ref (q 3), .ref (q 4), .ref (q 5), .ref (q 6), .ref (q 7), .ref (q 8), .ref (q 9), .ref (q 10), .ref (q 11), .ref (q 12), .ref (q 13), .ref (q 14), .int (M_lines (M_rd v74)), .int (M_size (M_rd v74)), .int (M_at (M_rd v74)), .int (M_place (M_rd v74)), .int (M_sort (M_rd v74)), .int (M_value (M_rd v74)), .int (M_fault (M_rd v74)), .int (M_faultPlace (M_rd v74)), .int (M_lastFault (M_lf v74)), .int (M_lastPlace (M_lf v74)), .ref (q 15), .ref (q 16), .ref (q 17), .ref (q 18), .int (M_hasImage (M_im v74)), .int (M_spanNow (M_rn v74)), .ref (q 19), .int (M_placeThen (M_rn v74)), .int (M_alonePlace (M_al v74)), .int (M_aloneSteps (M_al v74)), .int (M_aloneOut (M_al v74)), .ref (q 20), .ref (q 21), .ref (q 22), .ref (q 23), .int (M_shotAlarm (M_ex v74)), .int (M_drawn (M_ex v74))]), ((q 1), aI K 700 (M_tape (M_tp v74))), ((q 2), aI K 20 (M_number (M_cd v74))), ((q 3), aZ K 5 (M_isTold (M_rd v74))), ((q 4), aI K 80 (M_codeSort (M_cd v74))), ((q 5), aI K 80 (M_codeA (M_cd v74))), ((q 6), aI K 80 (M_codeB (M_cd v74))), ((q 7), aI K 80 (M_codeC (M_cd v74))), ((q 8), aI K 80 (M_codeName (M_cd v74))), ((q 9), aI K 80 (M_codePlace (M_cd v74))), ((q 10), aI K 80 (M_codeTo (M_cd v74))), ((q 11), aI K 280 (M_labelName (M_cd v74))), ((q 12), aI K 280 (M_labelAt (M_cd v74))), ((q 13), aI K 64 (M_data (M_cd v74))), ((q 14), aZ K 32 (M_hasData (M_rd v74))), ((q 15), aI K 314 (M_s (M_rn v74))), ((q 16), aI K 314 (M_aside (M_ex v74))), ((q 17), aI K 314 (M_further (M_ex v74))), ((q 18), aI K 314 (M_image (M_im v74))), ((q 19), aI K 3 (M_sizeNow (M_rn v74))), ((q 20), aI K 8 (M_aloneRegister (M_al v74))), ((q 21), aI K 4 (M_aloneReal (M_al v74))), ((q 22), aI K 32 (M_aloneMemory (M_al v74))), ((q 23), aI K 999 (M_aloneOutput (M_al v74)))]) cx [.int r69, .int ((M_s (M_rn v)) ((x5 + ((M_codeA (M_cd v)) x2.toNatClampNeg))).toNatClampNeg)] [] [0, 1, 2, 3, 4, 5, 6, 7, 8, 9, 10, 11, 12, 13, 14, 15, 16, 17, 18, 19, 20, 21, 22, 23] (m_M_trailerHolds l D K q ((M_tp v), (M_rd v), (M_lf v), (M_cd v), ((M_s (M_rn v)), (M_spanNow (M_rn v)), (M_sizeNow (M_rn v)), x11), (M_ex v), (M_im v), (M_al v), (M_thrown v)) r69 ((M_s (M_rn v)) ((x5 + ((M_codeA (M_cd v)) x2.toNatClampNeg))).toNatClampNeg) hc75) yv_X10_trailerHolds wd_1623 ⟨rfl, rfl⟩ (by decide) rfl rfl rfl (by decide) 0 rfl rfl rfl (Nat.le_of_ble_eq_true rfl) dX10_stepped_369 ?_
                  refine r_istore (pc := 372) (loc' := [(7, .int r73), (6, .int x10), (5, .int x6), (4, .int x5), (3, .int x4), (2, .int x2), (0, .ref (q 0)), (1, .int a1)]) cx dX10_stepped_372 (by decide) rfl ?_
                  refine r_goto (pc := 374) (tgt := 686) cx dX10_stepped_374 (by decide) ?_
                  refine r_loc (loc' := [(0, .ref (q 0)), (1, .int a1), (7, .int r73)]) [6, 7, 0] rfl ?_
                  exact hJ14 _ _ hf
                · have hf := ifp h68 hf
                  refine r_aload_n (pc := 321) cx dX10_stepped_321 6 rfl ?_
                  refine r_aload_n (pc := 322) cx dX10_stepped_322 6 rfl ?_
                  refine r_iconst (pc := 323) cx dX10_stepped_323 ic_0 ?_
                  refine r_iload_n (pc := 324) cx dX10_stepped_324 5 rfl ?_
                  obtain ⟨r76, hc77, hf⟩ := bd_of hf
                  refine r_Vi (pc := 325) (ws' := [((q 0), ob 9 [.int (M_thrown v), .ref (q 1), .int (M_taped (M_tp v)), .ref (q 2), .ref (q 3), .ref (q 4), .ref (q 5), .ref (q 6), .ref (q 7), .ref (q 8), .ref (q 9), .ref (q 10), .ref (q 11), .ref (q 12), .ref (q 13), .ref (q 14), .int (M_lines (M_rd v)), .int (M_size (M_rd v)), .int (M_at (M_rd v)), .int (M_place (M_rd v)), .int (M_sort (M_rd v)), .int (M_value (M_rd v)), .int (M_fault (M_rd v)), .int (M_faultPlace (M_rd v)), .int (M_lastFault (M_lf v)), .int (M_lastPlace (M_lf v)), .ref (q 15), .ref (q 16), .ref (q 17), .ref (q 18), .int (M_hasImage (M_im v)), .int (M_spanNow (M_rn v)), .ref (q 19), .int x11, .int (M_alonePlace (M_al v)), .int (M_aloneSteps (M_al v)), .int (M_aloneOut (M_al v)), .ref (q 20), .ref (q 21), .ref (q 22), .ref (q 23), .int (M_shotAlarm (M_ex v)), .int (M_drawn (M_ex v))]), ((q 1), aI K 700 (M_tape (M_tp v))), ((q 2), aI K 20 (M_number (M_cd v))), ((q 3), aZ K 5 (M_isTold (M_rd v))), ((q 4), aI K 80 (M_codeSort (M_cd v))), ((q 5), aI K 80 (M_codeA (M_cd v))), ((q 6), aI K 80 (M_codeB (M_cd v))), ((q 7), aI K 80 (M_codeC (M_cd v))), ((q 8), aI K 80 (M_codeName (M_cd v))), ((q 9), aI K 80 (M_codePlace (M_cd v))), ((q 10), aI K 80 (M_codeTo (M_cd v))), ((q 11), aI K 280 (M_labelName (M_cd v))), ((q 12), aI K 280 (M_labelAt (M_cd v))), ((q 13), aI K 64 (M_data (M_cd v))), ((q 14), aZ K 32 (M_hasData (M_rd v))), ((q 15), aI K 314 (M_s (M_rn v))), ((q 16), aI K 314 (M_aside (M_ex v))), ((q 17), aI K 314 (M_further (M_ex v))), ((q 18), aI K 314 (M_image (M_im v))), ((q 19), aI K 3 (M_sizeNow (M_rn v))), ((q 20), aI K 8 (M_aloneRegister (M_al v))), ((q 21), aI K 4 (M_aloneReal (M_al v))), ((q 22), aI K 32 (M_aloneMemory (M_al v))), ((q 23), aI K 999 (M_aloneOutput (M_al v)))]) cx [.int (0 : Int32), .int x2] [.ref (q 0)] [0, 1, 2, 3, 4, 5, 6, 7, 8, 9, 10, 11, 12, 13, 14, 15, 16, 17, 18, 19, 20, 21, 22, 23] (m_M_addressOf l D K q ((M_tp v), (M_rd v), (M_lf v), (M_cd v), ((M_s (M_rn v)), (M_spanNow (M_rn v)), (M_sizeNow (M_rn v)), x11), (M_ex v), (M_im v), (M_al v), (M_thrown v)) (0 : Int32) x2 hc77) yv_X10_addressOf wd_1611 ⟨rfl, rfl⟩ (by decide) rfl rfl rfl (by decide) 0 rfl rfl rfl (Nat.le_of_ble_eq_true rfl) dX10_stepped_325 ?_
                  refine r_aload_n (pc := 328) cx dX10_stepped_328 6 rfl ?_
                  refine r_get (pc := 329) cx cf_X10 0 26 rfl (by decide) rfl wd_1342 dX10_stepped_329 ?_
                  refine r_iload (pc := 332) cx dX10_stepped_332 3 rfl ?_
                  refine r_aload_n (pc := 334) cx dX10_stepped_334 6 rfl ?_
                  refine r_get (pc := 335) cx cf_X10 0 6 rfl (by decide) rfl wd_1322 dX10_stepped_335 ?_
                  refine r_iload_n (pc := 338) cx dX10_stepped_338 5 rfl ?_
                  obtain ⟨h78, hf⟩ := chk_of hf
                  refine r_iald (pc := 339) cx 5 rfl h78 dX10_stepped_339 ?_
                  refine r_iadd (pc := 340) cx dX10_stepped_340 ?_
                  obtain ⟨h79, hf⟩ := chk_of hf
                  refine r_iald (pc := 341) cx 15 rfl h79 dX10_stepped_341 ?_
                  obtain ⟨r80, v81, hc82, hf⟩ := bd2_of hf
                  refine r_Vi (pc := 342) (ws' := [((q 0), ob 9 [.int (M_thrown v81), .ref (q 1), .int (M_taped (M_tp v81)), .ref (q 2), .ref (q 3), .ref (q 4), .ref (q 5), .ref (q 6), .ref (q 7), .ref (q 8), .ref (q 9), .ref (q 10), .ref (q 11), .ref (q 12), .ref (q 13), .ref (q 14), .int (M_lines (M_rd v81)), .int (M_size (M_rd v81)), .int (M_at (M_rd v81)), .int (M_place (M_rd v81)), .int (M_sort (M_rd v81)), .int (M_value (M_rd v81)), .int (M_fault (M_rd v81)), .int (M_faultPlace (M_rd v81)), .int (M_lastFault (M_lf v81)), .int (M_lastPlace (M_lf v81)), .ref (q 15), .ref (q 16), .ref (q 17), .ref (q 18), .int (M_hasImage (M_im v81)), .int (M_spanNow (M_rn v81)), .ref (q 19), .int (M_placeThen (M_rn v81)), .int (M_alonePlace (M_al v81)), .int (M_aloneSteps (M_al v81)), .int (M_aloneOut (M_al v81)), .ref (q 20), .ref (q 21), .ref (q 22), .ref (q 23), .int (M_shotAlarm (M_ex v81)), .int (M_drawn (M_ex v81))]), ((q 1), aI K 700 (M_tape (M_tp v81))), ((q 2), aI K 20 (M_number (M_cd v81))), ((q 3), aZ K 5 (M_isTold (M_rd v81))), ((q 4), aI K 80 (M_codeSort (M_cd v81))), ((q 5), aI K 80 (M_codeA (M_cd v81))), ((q 6), aI K 80 (M_codeB (M_cd v81))), ((q 7), aI K 80 (M_codeC (M_cd v81))), ((q 8), aI K 80 (M_codeName (M_cd v81))), ((q 9), aI K 80 (M_codePlace (M_cd v81))), ((q 10), aI K 80 (M_codeTo (M_cd v81))), ((q 11), aI K 280 (M_labelName (M_cd v81))), ((q 12), aI K 280 (M_labelAt (M_cd v81))), ((q 13), aI K 64 (M_data (M_cd v81))), ((q 14), aZ K 32 (M_hasData (M_rd v81))), ((q 15), aI K 314 (M_s (M_rn v81))), ((q 16), aI K 314 (M_aside (M_ex v81))), ((q 17), aI K 314 (M_further (M_ex v81))), ((q 18), aI K 314 (M_image (M_im v81))), ((q 19), aI K 3 (M_sizeNow (M_rn v81))), ((q 20), aI K 8 (M_aloneRegister (M_al v81))), ((q 21), aI K 4 (M_aloneReal (M_al v81))), ((q 22), aI K 32 (M_aloneMemory (M_al v81))), ((q 23), aI K 999 (M_aloneOutput (M_al v81)))]) cx [.int r76, .int ((M_s (M_rn v)) ((x5 + ((M_codeA (M_cd v)) x2.toNatClampNeg))).toNatClampNeg)] [] [0, 1, 2, 3, 4, 5, 6, 7, 8, 9, 10, 11, 12, 13, 14, 15, 16, 17, 18, 19, 20, 21, 22, 23] (m_M_leaderHolds l D K q ((M_tp v), (M_rd v), (M_lf v), (M_cd v), ((M_s (M_rn v)), (M_spanNow (M_rn v)), (M_sizeNow (M_rn v)), x11), (M_ex v), (M_im v), (M_al v), (M_thrown v)) r76 ((M_s (M_rn v)) ((x5 + ((M_codeA (M_cd v)) x2.toNatClampNeg))).toNatClampNeg) hc82) yv_X10_leaderHolds wd_1619 ⟨rfl, rfl⟩ (by decide) rfl rfl rfl (by decide) 0 rfl rfl rfl (Nat.le_of_ble_eq_true rfl) dX10_stepped_342 ?_
                  refine r_goto (pc := 345) (tgt := 372) cx dX10_stepped_345 (by decide) ?_
                  refine r_istore (pc := 372) (loc' := [(7, .int r80), (6, .int x10), (5, .int x6), (4, .int x5), (3, .int x4), (2, .int x2), (0, .ref (q 0)), (1, .int a1)]) cx dX10_stepped_372 (by decide) rfl ?_
                  refine r_goto (pc := 374) (tgt := 686) cx dX10_stepped_374 (by decide) ?_
                  refine r_loc (loc' := [(0, .ref (q 0)), (1, .int a1), (7, .int r80)]) [6, 7, 0] rfl ?_
                  exact hJ14 _ _ hf
              · have hf := ifn h67 hf
                by_cases h83 : x4 = (14 : Int32)
                · have hf := ifp h83 hf
                  refine r_tin (pc := 65) (tgt := 377) cx (14 : Int32) h83 dX10_stepped_65 (by decide) (by decide) rfl (by decide) ?_
                  refine r_iload_n (pc := 377) cx dX10_stepped_377 7 rfl ?_
                  refine r_if_ne (pc := 378) (tgt := 404) cx dX10_stepped_378 (by decide) (fun h84 => ?_) (fun h84 => ?_)
                  · have hf := ifn h84 hf
                    refine r_aload_n (pc := 404) cx dX10_stepped_404 6 rfl ?_
                    refine r_bipush (pc := 405) cx dX10_stepped_405 bp_32 ?_
                    refine r_aload_n (pc := 407) cx dX10_stepped_407 6 rfl ?_
                    refine r_get (pc := 408) cx cf_X10 0 26 rfl (by decide) rfl wd_1342 dX10_stepped_408 ?_
                    refine r_iload (pc := 411) cx dX10_stepped_411 3 rfl ?_
                    refine r_aload_n (pc := 413) cx dX10_stepped_413 6 rfl ?_
                    refine r_get (pc := 414) cx cf_X10 0 6 rfl (by decide) rfl wd_1322 dX10_stepped_414 ?_
                    refine r_iload_n (pc := 417) cx dX10_stepped_417 5 rfl ?_
                    obtain ⟨h85, hf⟩ := chk_of hf
                    refine r_iald (pc := 418) cx 5 rfl h85 dX10_stepped_418 ?_
                    refine r_iadd (pc := 419) cx dX10_stepped_419 ?_
                    obtain ⟨h86, hf⟩ := chk_of hf
                    refine r_iald (pc := 420) cx 15 rfl h86 dX10_stepped_420 ?_
                    obtain ⟨r87, v88, hc89, hf⟩ := bd2_of hf
                    refine r_Vi (pc := 421) (ws' := [((q 0), ob 9 [.int (M_thrown v88), .ref (q 1), .int (M_taped (M_tp v88)), .ref (q 2), .ref (q 3), .ref (q 4), .ref (q 5), .ref (q 6), .ref (q 7), .ref (q 8), .ref (q 9), .ref (q 10), .ref (q 11), .ref (q 12), .ref (q 13), .ref (q 14), .int (M_lines (M_rd v88)), .int (M_size (M_rd v88)), .int (M_at (M_rd v88)), .int (M_place (M_rd v88)), .int (M_sort (M_rd v88)), .int (M_value (M_rd v88)), .int (M_fault (M_rd v88)), .int (M_faultPlace (M_rd v88)), .int (M_lastFault (M_lf v88)), .int (M_lastPlace (M_lf v88)), .ref (q 15), .ref (q 16), .ref (q 17), .ref (q 18), .int (M_hasImage (M_im v88)), .int (M_spanNow (M_rn v88)), .ref (q 19), .int (M_placeThen (M_rn v88)), .int (M_alonePlace (M_al v88)), .int (M_aloneSteps (M_al v88)), .int (M_aloneOut (M_al v88)), .ref (q 20), .ref (q 21), .ref (q 22), .ref (q 23), .int (M_shotAlarm (M_ex v88)), .int (M_drawn (M_ex v88))]), ((q 1), aI K 700 (M_tape (M_tp v88))), ((q 2), aI K 20 (M_number (M_cd v88))), ((q 3), aZ K 5 (M_isTold (M_rd v88))), ((q 4), aI K 80 (M_codeSort (M_cd v88))), ((q 5), aI K 80 (M_codeA (M_cd v88))), ((q 6), aI K 80 (M_codeB (M_cd v88))), ((q 7), aI K 80 (M_codeC (M_cd v88))), ((q 8), aI K 80 (M_codeName (M_cd v88))), ((q 9), aI K 80 (M_codePlace (M_cd v88))), ((q 10), aI K 80 (M_codeTo (M_cd v88))), ((q 11), aI K 280 (M_labelName (M_cd v88))), ((q 12), aI K 280 (M_labelAt (M_cd v88))), ((q 13), aI K 64 (M_data (M_cd v88))), ((q 14), aZ K 32 (M_hasData (M_rd v88))), ((q 15), aI K 314 (M_s (M_rn v88))), ((q 16), aI K 314 (M_aside (M_ex v88))), ((q 17), aI K 314 (M_further (M_ex v88))), ((q 18), aI K 314 (M_image (M_im v88))), ((q 19), aI K 3 (M_sizeNow (M_rn v88))), ((q 20), aI K 8 (M_aloneRegister (M_al v88))), ((q 21), aI K 4 (M_aloneReal (M_al v88))), ((q 22), aI K 32 (M_aloneMemory (M_al v88))), ((q 23), aI K 999 (M_aloneOutput (M_al v88)))]) cx [.int (32 : Int32), .int ((M_s (M_rn v)) ((x5 + ((M_codeA (M_cd v)) x2.toNatClampNeg))).toNatClampNeg)] [] [0, 1, 2, 3, 4, 5, 6, 7, 8, 9, 10, 11, 12, 13, 14, 15, 16, 17, 18, 19, 20, 21, 22, 23] (m_M_trailerHolds l D K q ((M_tp v), (M_rd v), (M_lf v), (M_cd v), ((M_s (M_rn v)), (M_spanNow (M_rn v)), (M_sizeNow (M_rn v)), x11), (M_ex v), (M_im v), (M_al v), (M_thrown v)) (32 : Int32) ((M_s (M_rn v)) ((x5 + ((M_codeA (M_cd v)) x2.toNatClampNeg))).toNatClampNeg) hc89) yv_X10_trailerHolds wd_1623 ⟨rfl, rfl⟩ (by decide) rfl rfl rfl (by decide) 0 rfl rfl rfl (Nat.le_of_ble_eq_true rfl) dX10_stepped_421 ?_
                    refine r_istore (pc := 424) (loc' := [(7, .int r87), (6, .int x10), (5, .int x6), (4, .int x5), (3, .int x4), (2, .int x2), (0, .ref (q 0)), (1, .int a1)]) cx dX10_stepped_424 (by decide) rfl ?_
                    refine r_goto (pc := 426) (tgt := 686) cx dX10_stepped_426 (by decide) ?_
                    refine r_loc (loc' := [(0, .ref (q 0)), (1, .int a1), (7, .int r87)]) [6, 7, 0] rfl ?_
                    exact hJ14 _ _ hf
                  · have hf := ifp h84 hf
                    refine r_aload_n (pc := 381) cx dX10_stepped_381 6 rfl ?_
                    refine r_bipush (pc := 382) cx dX10_stepped_382 bp_32 ?_
                    refine r_aload_n (pc := 384) cx dX10_stepped_384 6 rfl ?_
                    refine r_get (pc := 385) cx cf_X10 0 26 rfl (by decide) rfl wd_1342 dX10_stepped_385 ?_
                    refine r_iload (pc := 388) cx dX10_stepped_388 3 rfl ?_
                    refine r_aload_n (pc := 390) cx dX10_stepped_390 6 rfl ?_
                    refine r_get (pc := 391) cx cf_X10 0 6 rfl (by decide) rfl wd_1322 dX10_stepped_391 ?_
                    refine r_iload_n (pc := 394) cx dX10_stepped_394 5 rfl ?_
                    obtain ⟨h90, hf⟩ := chk_of hf
                    refine r_iald (pc := 395) cx 5 rfl h90 dX10_stepped_395 ?_
                    refine r_iadd (pc := 396) cx dX10_stepped_396 ?_
                    obtain ⟨h91, hf⟩ := chk_of hf
                    refine r_iald (pc := 397) cx 15 rfl h91 dX10_stepped_397 ?_
                    obtain ⟨r92, v93, hc94, hf⟩ := bd2_of hf
                    refine r_Vi (pc := 398) (ws' := [((q 0), ob 9 [.int (M_thrown v93), .ref (q 1), .int (M_taped (M_tp v93)), .ref (q 2), .ref (q 3), .ref (q 4), .ref (q 5), .ref (q 6), .ref (q 7), .ref (q 8), .ref (q 9), .ref (q 10), .ref (q 11), .ref (q 12), .ref (q 13), .ref (q 14), .int (M_lines (M_rd v93)), .int (M_size (M_rd v93)), .int (M_at (M_rd v93)), .int (M_place (M_rd v93)), .int (M_sort (M_rd v93)), .int (M_value (M_rd v93)), .int (M_fault (M_rd v93)), .int (M_faultPlace (M_rd v93)), .int (M_lastFault (M_lf v93)), .int (M_lastPlace (M_lf v93)), .ref (q 15), .ref (q 16), .ref (q 17), .ref (q 18), .int (M_hasImage (M_im v93)), .int (M_spanNow (M_rn v93)), .ref (q 19), .int (M_placeThen (M_rn v93)), .int (M_alonePlace (M_al v93)), .int (M_aloneSteps (M_al v93)), .int (M_aloneOut (M_al v93)), .ref (q 20), .ref (q 21), .ref (q 22), .ref (q 23), .int (M_shotAlarm (M_ex v93)), .int (M_drawn (M_ex v93))]), ((q 1), aI K 700 (M_tape (M_tp v93))), ((q 2), aI K 20 (M_number (M_cd v93))), ((q 3), aZ K 5 (M_isTold (M_rd v93))), ((q 4), aI K 80 (M_codeSort (M_cd v93))), ((q 5), aI K 80 (M_codeA (M_cd v93))), ((q 6), aI K 80 (M_codeB (M_cd v93))), ((q 7), aI K 80 (M_codeC (M_cd v93))), ((q 8), aI K 80 (M_codeName (M_cd v93))), ((q 9), aI K 80 (M_codePlace (M_cd v93))), ((q 10), aI K 80 (M_codeTo (M_cd v93))), ((q 11), aI K 280 (M_labelName (M_cd v93))), ((q 12), aI K 280 (M_labelAt (M_cd v93))), ((q 13), aI K 64 (M_data (M_cd v93))), ((q 14), aZ K 32 (M_hasData (M_rd v93))), ((q 15), aI K 314 (M_s (M_rn v93))), ((q 16), aI K 314 (M_aside (M_ex v93))), ((q 17), aI K 314 (M_further (M_ex v93))), ((q 18), aI K 314 (M_image (M_im v93))), ((q 19), aI K 3 (M_sizeNow (M_rn v93))), ((q 20), aI K 8 (M_aloneRegister (M_al v93))), ((q 21), aI K 4 (M_aloneReal (M_al v93))), ((q 22), aI K 32 (M_aloneMemory (M_al v93))), ((q 23), aI K 999 (M_aloneOutput (M_al v93)))]) cx [.int (32 : Int32), .int ((M_s (M_rn v)) ((x5 + ((M_codeA (M_cd v)) x2.toNatClampNeg))).toNatClampNeg)] [] [0, 1, 2, 3, 4, 5, 6, 7, 8, 9, 10, 11, 12, 13, 14, 15, 16, 17, 18, 19, 20, 21, 22, 23] (m_M_leaderHolds l D K q ((M_tp v), (M_rd v), (M_lf v), (M_cd v), ((M_s (M_rn v)), (M_spanNow (M_rn v)), (M_sizeNow (M_rn v)), x11), (M_ex v), (M_im v), (M_al v), (M_thrown v)) (32 : Int32) ((M_s (M_rn v)) ((x5 + ((M_codeA (M_cd v)) x2.toNatClampNeg))).toNatClampNeg) hc94) yv_X10_leaderHolds wd_1619 ⟨rfl, rfl⟩ (by decide) rfl rfl rfl (by decide) 0 rfl rfl rfl (Nat.le_of_ble_eq_true rfl) dX10_stepped_398 ?_
                    refine r_goto (pc := 401) (tgt := 424) cx dX10_stepped_401 (by decide) ?_
                    refine r_istore (pc := 424) (loc' := [(7, .int r92), (6, .int x10), (5, .int x6), (4, .int x5), (3, .int x4), (2, .int x2), (0, .ref (q 0)), (1, .int a1)]) cx dX10_stepped_424 (by decide) rfl ?_
                    refine r_goto (pc := 426) (tgt := 686) cx dX10_stepped_426 (by decide) ?_
                    refine r_loc (loc' := [(0, .ref (q 0)), (1, .int a1), (7, .int r92)]) [6, 7, 0] rfl ?_
                    exact hJ14 _ _ hf
                · have hf := ifn h83 hf
                  by_cases h95 : x4 = (15 : Int32)
                  · have hf := ifp h95 hf
                    refine r_tin (pc := 65) (tgt := 429) cx (15 : Int32) h95 dX10_stepped_65 (by decide) (by decide) rfl (by decide) ?_
                    refine r_aload_n (pc := 429) cx dX10_stepped_429 6 rfl ?_
                    refine r_get (pc := 430) cx cf_X10 0 26 rfl (by decide) rfl wd_1342 dX10_stepped_430 ?_
                    refine r_iload (pc := 433) cx dX10_stepped_433 2 rfl ?_
                    refine r_aload_n (pc := 435) cx dX10_stepped_435 6 rfl ?_
                    refine r_get (pc := 436) cx cf_X10 0 6 rfl (by decide) rfl wd_1322 dX10_stepped_436 ?_
                    refine r_iload_n (pc := 439) cx dX10_stepped_439 5 rfl ?_
                    obtain ⟨h96, hf⟩ := chk_of hf
                    refine r_iald (pc := 440) cx 5 rfl h96 dX10_stepped_440 ?_
                    refine r_iadd (pc := 441) cx dX10_stepped_441 ?_
                    refine r_iload (pc := 442) cx dX10_stepped_442 1 rfl ?_
                    refine r_i2d (pc := 444) cx dX10_stepped_444 ?_
                    obtain ⟨r97, hc98, hf⟩ := bd_of hf
                    refine r_Si (pc := 445) (ws' := [((q 0), ob 9 [.int (M_thrown v), .ref (q 1), .int (M_taped (M_tp v)), .ref (q 2), .ref (q 3), .ref (q 4), .ref (q 5), .ref (q 6), .ref (q 7), .ref (q 8), .ref (q 9), .ref (q 10), .ref (q 11), .ref (q 12), .ref (q 13), .ref (q 14), .int (M_lines (M_rd v)), .int (M_size (M_rd v)), .int (M_at (M_rd v)), .int (M_place (M_rd v)), .int (M_sort (M_rd v)), .int (M_value (M_rd v)), .int (M_fault (M_rd v)), .int (M_faultPlace (M_rd v)), .int (M_lastFault (M_lf v)), .int (M_lastPlace (M_lf v)), .ref (q 15), .ref (q 16), .ref (q 17), .ref (q 18), .int (M_hasImage (M_im v)), .int (M_spanNow (M_rn v)), .ref (q 19), .int x11, .int (M_alonePlace (M_al v)), .int (M_aloneSteps (M_al v)), .int (M_aloneOut (M_al v)), .ref (q 20), .ref (q 21), .ref (q 22), .ref (q 23), .int (M_shotAlarm (M_ex v)), .int (M_drawn (M_ex v))]), ((q 1), aI K 700 (M_tape (M_tp v))), ((q 2), aI K 20 (M_number (M_cd v))), ((q 3), aZ K 5 (M_isTold (M_rd v))), ((q 4), aI K 80 (M_codeSort (M_cd v))), ((q 5), aI K 80 (M_codeA (M_cd v))), ((q 6), aI K 80 (M_codeB (M_cd v))), ((q 7), aI K 80 (M_codeC (M_cd v))), ((q 8), aI K 80 (M_codeName (M_cd v))), ((q 9), aI K 80 (M_codePlace (M_cd v))), ((q 10), aI K 80 (M_codeTo (M_cd v))), ((q 11), aI K 280 (M_labelName (M_cd v))), ((q 12), aI K 280 (M_labelAt (M_cd v))), ((q 13), aI K 64 (M_data (M_cd v))), ((q 14), aZ K 32 (M_hasData (M_rd v))), ((q 15), aI K 314 (M_s (M_rn v))), ((q 16), aI K 314 (M_aside (M_ex v))), ((q 17), aI K 314 (M_further (M_ex v))), ((q 18), aI K 314 (M_image (M_im v))), ((q 19), aI K 3 (M_sizeNow (M_rn v))), ((q 20), aI K 8 (M_aloneRegister (M_al v))), ((q 21), aI K 4 (M_aloneReal (M_al v))), ((q 22), aI K 32 (M_aloneMemory (M_al v))), ((q 23), aI K 999 (M_aloneOutput (M_al v)))]) cx [.double (FP.i2d x10)] [.int (x6 + ((M_codeA (M_cd v)) x2.toNatClampNeg)), .ref (q 15)] [] (m_M_cut l D K (FP.i2d x10) hc98) ys_X10_cut wd_1627 ⟨rfl, rfl⟩ (by decide) rfl rfl rfl (by decide) rfl (Nat.le_of_ble_eq_true rfl) dX10_stepped_445 ?_
                    obtain ⟨h99, hf⟩ := chk_of hf
                    obtain ⟨f100, ef100, hf⟩ := nm_of hf
                    refine r_iast (pc := 448) (ws' := [((q 0), ob 9 [.int (M_thrown v), .ref (q 1), .int (M_taped (M_tp v)), .ref (q 2), .ref (q 3), .ref (q 4), .ref (q 5), .ref (q 6), .ref (q 7), .ref (q 8), .ref (q 9), .ref (q 10), .ref (q 11), .ref (q 12), .ref (q 13), .ref (q 14), .int (M_lines (M_rd v)), .int (M_size (M_rd v)), .int (M_at (M_rd v)), .int (M_place (M_rd v)), .int (M_sort (M_rd v)), .int (M_value (M_rd v)), .int (M_fault (M_rd v)), .int (M_faultPlace (M_rd v)), .int (M_lastFault (M_lf v)), .int (M_lastPlace (M_lf v)), .ref (q 15), .ref (q 16), .ref (q 17), .ref (q 18), .int (M_hasImage (M_im v)), .int (M_spanNow (M_rn v)), .ref (q 19), .int x11, .int (M_alonePlace (M_al v)), .int (M_aloneSteps (M_al v)), .int (M_aloneOut (M_al v)), .ref (q 20), .ref (q 21), .ref (q 22), .ref (q 23), .int (M_shotAlarm (M_ex v)), .int (M_drawn (M_ex v))]), ((q 1), aI K 700 (M_tape (M_tp v))), ((q 2), aI K 20 (M_number (M_cd v))), ((q 3), aZ K 5 (M_isTold (M_rd v))), ((q 4), aI K 80 (M_codeSort (M_cd v))), ((q 5), aI K 80 (M_codeA (M_cd v))), ((q 6), aI K 80 (M_codeB (M_cd v))), ((q 7), aI K 80 (M_codeC (M_cd v))), ((q 8), aI K 80 (M_codeName (M_cd v))), ((q 9), aI K 80 (M_codePlace (M_cd v))), ((q 10), aI K 80 (M_codeTo (M_cd v))), ((q 11), aI K 280 (M_labelName (M_cd v))), ((q 12), aI K 280 (M_labelAt (M_cd v))), ((q 13), aI K 64 (M_data (M_cd v))), ((q 14), aZ K 32 (M_hasData (M_rd v))), ((q 15), aI K 314 f100), ((q 16), aI K 314 (M_aside (M_ex v))), ((q 17), aI K 314 (M_further (M_ex v))), ((q 18), aI K 314 (M_image (M_im v))), ((q 19), aI K 3 (M_sizeNow (M_rn v))), ((q 20), aI K 8 (M_aloneRegister (M_al v))), ((q 21), aI K 4 (M_aloneReal (M_al v))), ((q 22), aI K 32 (M_aloneMemory (M_al v))), ((q 23), aI K 999 (M_aloneOutput (M_al v)))]) cx 15 rfl h99 dX10_stepped_448 ef100 rfl ?_
                    refine r_goto (pc := 449) (tgt := 686) cx dX10_stepped_449 (by decide) ?_
                    refine r_loc (loc' := [(0, .ref (q 0)), (1, .int a1), (7, .int (0 : Int32))]) [6, 7, 0] rfl ?_
                    exact hJ14 _ _ hf
                  · have hf := ifn h95 hf
                    by_cases h101 : x4 = (16 : Int32)
                    · have hf := ifp h101 hf
                      refine r_tin (pc := 65) (tgt := 452) cx (16 : Int32) h101 dX10_stepped_65 (by decide) (by decide) rfl (by decide) ?_
                      refine r_aload_n (pc := 452) cx dX10_stepped_452 6 rfl ?_
                      refine r_get (pc := 453) cx cf_X10 0 26 rfl (by decide) rfl wd_1342 dX10_stepped_453 ?_
                      refine r_iload (pc := 456) cx dX10_stepped_456 3 rfl ?_
                      refine r_aload_n (pc := 458) cx dX10_stepped_458 6 rfl ?_
                      refine r_get (pc := 459) cx cf_X10 0 6 rfl (by decide) rfl wd_1322 dX10_stepped_459 ?_
                      refine r_iload_n (pc := 462) cx dX10_stepped_462 5 rfl ?_
                      obtain ⟨h102, hf⟩ := chk_of hf
                      refine r_iald (pc := 463) cx 5 rfl h102 dX10_stepped_463 ?_
                      refine r_iadd (pc := 464) cx dX10_stepped_464 ?_
                      refine r_aload_n (pc := 465) cx dX10_stepped_465 6 rfl ?_
                      refine r_get (pc := 466) cx cf_X10 0 26 rfl (by decide) rfl wd_1342 dX10_stepped_466 ?_
                      refine r_iload (pc := 469) cx dX10_stepped_469 2 rfl ?_
                      refine r_aload_n (pc := 471) cx dX10_stepped_471 6 rfl ?_
                      refine r_get (pc := 472) cx cf_X10 0 7 rfl (by decide) rfl wd_1323 dX10_stepped_472 ?_
                      refine r_iload_n (pc := 475) cx dX10_stepped_475 5 rfl ?_
                      obtain ⟨h103, hf⟩ := chk_of hf
                      refine r_iald (pc := 476) cx 6 rfl h103 dX10_stepped_476 ?_
                      refine r_iadd (pc := 477) cx dX10_stepped_477 ?_
                      obtain ⟨h104, hf⟩ := chk_of hf
                      refine r_iald (pc := 478) cx 15 rfl h104 dX10_stepped_478 ?_
                      obtain ⟨r105, hc106, hf⟩ := bd_of hf
                      refine r_Si (pc := 479) (ws' := [((q 0), ob 9 [.int (M_thrown v), .ref (q 1), .int (M_taped (M_tp v)), .ref (q 2), .ref (q 3), .ref (q 4), .ref (q 5), .ref (q 6), .ref (q 7), .ref (q 8), .ref (q 9), .ref (q 10), .ref (q 11), .ref (q 12), .ref (q 13), .ref (q 14), .int (M_lines (M_rd v)), .int (M_size (M_rd v)), .int (M_at (M_rd v)), .int (M_place (M_rd v)), .int (M_sort (M_rd v)), .int (M_value (M_rd v)), .int (M_fault (M_rd v)), .int (M_faultPlace (M_rd v)), .int (M_lastFault (M_lf v)), .int (M_lastPlace (M_lf v)), .ref (q 15), .ref (q 16), .ref (q 17), .ref (q 18), .int (M_hasImage (M_im v)), .int (M_spanNow (M_rn v)), .ref (q 19), .int x11, .int (M_alonePlace (M_al v)), .int (M_aloneSteps (M_al v)), .int (M_aloneOut (M_al v)), .ref (q 20), .ref (q 21), .ref (q 22), .ref (q 23), .int (M_shotAlarm (M_ex v)), .int (M_drawn (M_ex v))]), ((q 1), aI K 700 (M_tape (M_tp v))), ((q 2), aI K 20 (M_number (M_cd v))), ((q 3), aZ K 5 (M_isTold (M_rd v))), ((q 4), aI K 80 (M_codeSort (M_cd v))), ((q 5), aI K 80 (M_codeA (M_cd v))), ((q 6), aI K 80 (M_codeB (M_cd v))), ((q 7), aI K 80 (M_codeC (M_cd v))), ((q 8), aI K 80 (M_codeName (M_cd v))), ((q 9), aI K 80 (M_codePlace (M_cd v))), ((q 10), aI K 80 (M_codeTo (M_cd v))), ((q 11), aI K 280 (M_labelName (M_cd v))), ((q 12), aI K 280 (M_labelAt (M_cd v))), ((q 13), aI K 64 (M_data (M_cd v))), ((q 14), aZ K 32 (M_hasData (M_rd v))), ((q 15), aI K 314 (M_s (M_rn v))), ((q 16), aI K 314 (M_aside (M_ex v))), ((q 17), aI K 314 (M_further (M_ex v))), ((q 18), aI K 314 (M_image (M_im v))), ((q 19), aI K 3 (M_sizeNow (M_rn v))), ((q 20), aI K 8 (M_aloneRegister (M_al v))), ((q 21), aI K 4 (M_aloneReal (M_al v))), ((q 22), aI K 32 (M_aloneMemory (M_al v))), ((q 23), aI K 999 (M_aloneOutput (M_al v)))]) cx [.int ((M_s (M_rn v)) ((x6 + ((M_codeB (M_cd v)) x2.toNatClampNeg))).toNatClampNeg)] [.int (x5 + ((M_codeA (M_cd v)) x2.toNatClampNeg)), .ref (q 15)] [] (m_M_whole l D K ((M_s (M_rn v)) ((x6 + ((M_codeB (M_cd v)) x2.toNatClampNeg))).toNatClampNeg) hc106) ys_X10_whole wd_1640 ⟨rfl, rfl⟩ (by decide) rfl rfl rfl (by decide) rfl (Nat.le_of_ble_eq_true rfl) dX10_stepped_479 ?_
                      obtain ⟨h107, hf⟩ := chk_of hf
                      obtain ⟨f108, ef108, hf⟩ := nm_of hf
                      refine r_iast (pc := 482) (ws' := [((q 0), ob 9 [.int (M_thrown v), .ref (q 1), .int (M_taped (M_tp v)), .ref (q 2), .ref (q 3), .ref (q 4), .ref (q 5), .ref (q 6), .ref (q 7), .ref (q 8), .ref (q 9), .ref (q 10), .ref (q 11), .ref (q 12), .ref (q 13), .ref (q 14), .int (M_lines (M_rd v)), .int (M_size (M_rd v)), .int (M_at (M_rd v)), .int (M_place (M_rd v)), .int (M_sort (M_rd v)), .int (M_value (M_rd v)), .int (M_fault (M_rd v)), .int (M_faultPlace (M_rd v)), .int (M_lastFault (M_lf v)), .int (M_lastPlace (M_lf v)), .ref (q 15), .ref (q 16), .ref (q 17), .ref (q 18), .int (M_hasImage (M_im v)), .int (M_spanNow (M_rn v)), .ref (q 19), .int x11, .int (M_alonePlace (M_al v)), .int (M_aloneSteps (M_al v)), .int (M_aloneOut (M_al v)), .ref (q 20), .ref (q 21), .ref (q 22), .ref (q 23), .int (M_shotAlarm (M_ex v)), .int (M_drawn (M_ex v))]), ((q 1), aI K 700 (M_tape (M_tp v))), ((q 2), aI K 20 (M_number (M_cd v))), ((q 3), aZ K 5 (M_isTold (M_rd v))), ((q 4), aI K 80 (M_codeSort (M_cd v))), ((q 5), aI K 80 (M_codeA (M_cd v))), ((q 6), aI K 80 (M_codeB (M_cd v))), ((q 7), aI K 80 (M_codeC (M_cd v))), ((q 8), aI K 80 (M_codeName (M_cd v))), ((q 9), aI K 80 (M_codePlace (M_cd v))), ((q 10), aI K 80 (M_codeTo (M_cd v))), ((q 11), aI K 280 (M_labelName (M_cd v))), ((q 12), aI K 280 (M_labelAt (M_cd v))), ((q 13), aI K 64 (M_data (M_cd v))), ((q 14), aZ K 32 (M_hasData (M_rd v))), ((q 15), aI K 314 f108), ((q 16), aI K 314 (M_aside (M_ex v))), ((q 17), aI K 314 (M_further (M_ex v))), ((q 18), aI K 314 (M_image (M_im v))), ((q 19), aI K 3 (M_sizeNow (M_rn v))), ((q 20), aI K 8 (M_aloneRegister (M_al v))), ((q 21), aI K 4 (M_aloneReal (M_al v))), ((q 22), aI K 32 (M_aloneMemory (M_al v))), ((q 23), aI K 999 (M_aloneOutput (M_al v)))]) cx 15 rfl h107 dX10_stepped_482 ef108 rfl ?_
                      refine r_goto (pc := 483) (tgt := 686) cx dX10_stepped_483 (by decide) ?_
                      refine r_loc (loc' := [(0, .ref (q 0)), (1, .int a1), (7, .int (0 : Int32))]) [6, 7, 0] rfl ?_
                      exact hJ14 _ _ hf
                    · have hf := ifn h101 hf
                      by_cases h109 : x4 = (17 : Int32)
                      · have hf := ifp h109 hf
                        refine r_tin (pc := 65) (tgt := 486) cx (17 : Int32) h109 dX10_stepped_65 (by decide) (by decide) rfl (by decide) ?_
                        refine r_aload_n (pc := 486) cx dX10_stepped_486 6 rfl ?_
                        refine r_get (pc := 487) cx cf_X10 0 26 rfl (by decide) rfl wd_1342 dX10_stepped_487 ?_
                        refine r_iload (pc := 490) cx dX10_stepped_490 3 rfl ?_
                        refine r_aload_n (pc := 492) cx dX10_stepped_492 6 rfl ?_
                        refine r_get (pc := 493) cx cf_X10 0 6 rfl (by decide) rfl wd_1322 dX10_stepped_493 ?_
                        refine r_iload_n (pc := 496) cx dX10_stepped_496 5 rfl ?_
                        obtain ⟨h110, hf⟩ := chk_of hf
                        refine r_iald (pc := 497) cx 5 rfl h110 dX10_stepped_497 ?_
                        refine r_iadd (pc := 498) cx dX10_stepped_498 ?_
                        refine r_aload_n (pc := 499) cx dX10_stepped_499 6 rfl ?_
                        refine r_get (pc := 500) cx cf_X10 0 26 rfl (by decide) rfl wd_1342 dX10_stepped_500 ?_
                        refine r_iload (pc := 503) cx dX10_stepped_503 2 rfl ?_
                        refine r_aload_n (pc := 505) cx dX10_stepped_505 6 rfl ?_
                        refine r_get (pc := 506) cx cf_X10 0 7 rfl (by decide) rfl wd_1323 dX10_stepped_506 ?_
                        refine r_iload_n (pc := 509) cx dX10_stepped_509 5 rfl ?_
                        obtain ⟨h111, hf⟩ := chk_of hf
                        refine r_iald (pc := 510) cx 6 rfl h111 dX10_stepped_510 ?_
                        refine r_iadd (pc := 511) cx dX10_stepped_511 ?_
                        obtain ⟨h112, hf⟩ := chk_of hf
                        refine r_iald (pc := 512) cx 15 rfl h112 dX10_stepped_512 ?_
                        obtain ⟨x113, ex113, hf⟩ := nm_of hf
                        refine r_nm ex113 ?_
                        obtain ⟨h114, hf⟩ := chk_of hf
                        obtain ⟨f115, ef115, hf⟩ := nm_of hf
                        refine r_iast (pc := 513) (ws' := [((q 0), ob 9 [.int (M_thrown v), .ref (q 1), .int (M_taped (M_tp v)), .ref (q 2), .ref (q 3), .ref (q 4), .ref (q 5), .ref (q 6), .ref (q 7), .ref (q 8), .ref (q 9), .ref (q 10), .ref (q 11), .ref (q 12), .ref (q 13), .ref (q 14), .int (M_lines (M_rd v)), .int (M_size (M_rd v)), .int (M_at (M_rd v)), .int (M_place (M_rd v)), .int (M_sort (M_rd v)), .int (M_value (M_rd v)), .int (M_fault (M_rd v)), .int (M_faultPlace (M_rd v)), .int (M_lastFault (M_lf v)), .int (M_lastPlace (M_lf v)), .ref (q 15), .ref (q 16), .ref (q 17), .ref (q 18), .int (M_hasImage (M_im v)), .int (M_spanNow (M_rn v)), .ref (q 19), .int x11, .int (M_alonePlace (M_al v)), .int (M_aloneSteps (M_al v)), .int (M_aloneOut (M_al v)), .ref (q 20), .ref (q 21), .ref (q 22), .ref (q 23), .int (M_shotAlarm (M_ex v)), .int (M_drawn (M_ex v))]), ((q 1), aI K 700 (M_tape (M_tp v))), ((q 2), aI K 20 (M_number (M_cd v))), ((q 3), aZ K 5 (M_isTold (M_rd v))), ((q 4), aI K 80 (M_codeSort (M_cd v))), ((q 5), aI K 80 (M_codeA (M_cd v))), ((q 6), aI K 80 (M_codeB (M_cd v))), ((q 7), aI K 80 (M_codeC (M_cd v))), ((q 8), aI K 80 (M_codeName (M_cd v))), ((q 9), aI K 80 (M_codePlace (M_cd v))), ((q 10), aI K 80 (M_codeTo (M_cd v))), ((q 11), aI K 280 (M_labelName (M_cd v))), ((q 12), aI K 280 (M_labelAt (M_cd v))), ((q 13), aI K 64 (M_data (M_cd v))), ((q 14), aZ K 32 (M_hasData (M_rd v))), ((q 15), aI K 314 f115), ((q 16), aI K 314 (M_aside (M_ex v))), ((q 17), aI K 314 (M_further (M_ex v))), ((q 18), aI K 314 (M_image (M_im v))), ((q 19), aI K 3 (M_sizeNow (M_rn v))), ((q 20), aI K 8 (M_aloneRegister (M_al v))), ((q 21), aI K 4 (M_aloneReal (M_al v))), ((q 22), aI K 32 (M_aloneMemory (M_al v))), ((q 23), aI K 999 (M_aloneOutput (M_al v)))]) cx 15 rfl h114 dX10_stepped_513 ef115 rfl ?_
                        refine r_goto (pc := 514) (tgt := 686) cx dX10_stepped_514 (by decide) ?_
                        refine r_loc (loc' := [(0, .ref (q 0)), (1, .int a1), (7, .int (0 : Int32))]) [6, 7, 0] rfl ?_
                        exact hJ14 _ _ hf
                      · have hf := ifn h109 hf
                        by_cases h116 : x4 = (18 : Int32)
                        · have hf := ifp h116 hf
                          refine r_tin (pc := 65) (tgt := 517) cx (18 : Int32) h116 dX10_stepped_65 (by decide) (by decide) rfl (by decide) ?_
                          refine r_aload_n (pc := 517) cx dX10_stepped_517 6 rfl ?_
                          refine r_get (pc := 518) cx cf_X10 0 26 rfl (by decide) rfl wd_1342 dX10_stepped_518 ?_
                          refine r_iload (pc := 521) cx dX10_stepped_521 2 rfl ?_
                          refine r_aload_n (pc := 523) cx dX10_stepped_523 6 rfl ?_
                          refine r_get (pc := 524) cx cf_X10 0 6 rfl (by decide) rfl wd_1322 dX10_stepped_524 ?_
                          refine r_iload_n (pc := 527) cx dX10_stepped_527 5 rfl ?_
                          obtain ⟨h117, hf⟩ := chk_of hf
                          refine r_iald (pc := 528) cx 5 rfl h117 dX10_stepped_528 ?_
                          refine r_iadd (pc := 529) cx dX10_stepped_529 ?_
                          refine r_aload_n (pc := 530) cx dX10_stepped_530 6 rfl ?_
                          refine r_get (pc := 531) cx cf_X10 0 26 rfl (by decide) rfl wd_1342 dX10_stepped_531 ?_
                          refine r_iload (pc := 534) cx dX10_stepped_534 2 rfl ?_
                          refine r_aload_n (pc := 536) cx dX10_stepped_536 6 rfl ?_
                          refine r_get (pc := 537) cx cf_X10 0 7 rfl (by decide) rfl wd_1323 dX10_stepped_537 ?_
                          refine r_iload_n (pc := 540) cx dX10_stepped_540 5 rfl ?_
                          obtain ⟨h118, hf⟩ := chk_of hf
                          refine r_iald (pc := 541) cx 6 rfl h118 dX10_stepped_541 ?_
                          refine r_iadd (pc := 542) cx dX10_stepped_542 ?_
                          obtain ⟨h119, hf⟩ := chk_of hf
                          refine r_iald (pc := 543) cx 15 rfl h119 dX10_stepped_543 ?_
                          refine r_aload_n (pc := 544) cx dX10_stepped_544 6 rfl ?_
                          refine r_get (pc := 545) cx cf_X10 0 26 rfl (by decide) rfl wd_1342 dX10_stepped_545 ?_
                          refine r_iload (pc := 548) cx dX10_stepped_548 2 rfl ?_
                          refine r_aload_n (pc := 550) cx dX10_stepped_550 6 rfl ?_
                          refine r_get (pc := 551) cx cf_X10 0 8 rfl (by decide) rfl wd_1324 dX10_stepped_551 ?_
                          refine r_iload_n (pc := 554) cx dX10_stepped_554 5 rfl ?_
                          obtain ⟨h120, hf⟩ := chk_of hf
                          refine r_iald (pc := 555) cx 7 rfl h120 dX10_stepped_555 ?_
                          refine r_iadd (pc := 556) cx dX10_stepped_556 ?_
                          obtain ⟨h121, hf⟩ := chk_of hf
                          refine r_iald (pc := 557) cx 15 rfl h121 dX10_stepped_557 ?_
                          obtain ⟨r122, hc123, hf⟩ := bd_of hf
                          refine r_Si (pc := 558) (ws' := [((q 0), ob 9 [.int (M_thrown v), .ref (q 1), .int (M_taped (M_tp v)), .ref (q 2), .ref (q 3), .ref (q 4), .ref (q 5), .ref (q 6), .ref (q 7), .ref (q 8), .ref (q 9), .ref (q 10), .ref (q 11), .ref (q 12), .ref (q 13), .ref (q 14), .int (M_lines (M_rd v)), .int (M_size (M_rd v)), .int (M_at (M_rd v)), .int (M_place (M_rd v)), .int (M_sort (M_rd v)), .int (M_value (M_rd v)), .int (M_fault (M_rd v)), .int (M_faultPlace (M_rd v)), .int (M_lastFault (M_lf v)), .int (M_lastPlace (M_lf v)), .ref (q 15), .ref (q 16), .ref (q 17), .ref (q 18), .int (M_hasImage (M_im v)), .int (M_spanNow (M_rn v)), .ref (q 19), .int x11, .int (M_alonePlace (M_al v)), .int (M_aloneSteps (M_al v)), .int (M_aloneOut (M_al v)), .ref (q 20), .ref (q 21), .ref (q 22), .ref (q 23), .int (M_shotAlarm (M_ex v)), .int (M_drawn (M_ex v))]), ((q 1), aI K 700 (M_tape (M_tp v))), ((q 2), aI K 20 (M_number (M_cd v))), ((q 3), aZ K 5 (M_isTold (M_rd v))), ((q 4), aI K 80 (M_codeSort (M_cd v))), ((q 5), aI K 80 (M_codeA (M_cd v))), ((q 6), aI K 80 (M_codeB (M_cd v))), ((q 7), aI K 80 (M_codeC (M_cd v))), ((q 8), aI K 80 (M_codeName (M_cd v))), ((q 9), aI K 80 (M_codePlace (M_cd v))), ((q 10), aI K 80 (M_codeTo (M_cd v))), ((q 11), aI K 280 (M_labelName (M_cd v))), ((q 12), aI K 280 (M_labelAt (M_cd v))), ((q 13), aI K 64 (M_data (M_cd v))), ((q 14), aZ K 32 (M_hasData (M_rd v))), ((q 15), aI K 314 (M_s (M_rn v))), ((q 16), aI K 314 (M_aside (M_ex v))), ((q 17), aI K 314 (M_further (M_ex v))), ((q 18), aI K 314 (M_image (M_im v))), ((q 19), aI K 3 (M_sizeNow (M_rn v))), ((q 20), aI K 8 (M_aloneRegister (M_al v))), ((q 21), aI K 4 (M_aloneReal (M_al v))), ((q 22), aI K 32 (M_aloneMemory (M_al v))), ((q 23), aI K 999 (M_aloneOutput (M_al v)))]) cx [.int ((M_s (M_rn v)) ((x6 + ((M_codeB (M_cd v)) x2.toNatClampNeg))).toNatClampNeg), .int ((M_s (M_rn v)) ((x6 + ((M_codeC (M_cd v)) x2.toNatClampNeg))).toNatClampNeg)] [.int (x6 + ((M_codeA (M_cd v)) x2.toNatClampNeg)), .ref (q 15)] [] (m_M_added l D K ((M_s (M_rn v)) ((x6 + ((M_codeB (M_cd v)) x2.toNatClampNeg))).toNatClampNeg) ((M_s (M_rn v)) ((x6 + ((M_codeC (M_cd v)) x2.toNatClampNeg))).toNatClampNeg) hc123) ys_X10_added wd_1653 ⟨rfl, rfl⟩ (by decide) rfl rfl rfl (by decide) rfl (Nat.le_of_ble_eq_true rfl) dX10_stepped_558 ?_
                          obtain ⟨h124, hf⟩ := chk_of hf
                          obtain ⟨f125, ef125, hf⟩ := nm_of hf
                          refine r_iast (pc := 561) (ws' := [((q 0), ob 9 [.int (M_thrown v), .ref (q 1), .int (M_taped (M_tp v)), .ref (q 2), .ref (q 3), .ref (q 4), .ref (q 5), .ref (q 6), .ref (q 7), .ref (q 8), .ref (q 9), .ref (q 10), .ref (q 11), .ref (q 12), .ref (q 13), .ref (q 14), .int (M_lines (M_rd v)), .int (M_size (M_rd v)), .int (M_at (M_rd v)), .int (M_place (M_rd v)), .int (M_sort (M_rd v)), .int (M_value (M_rd v)), .int (M_fault (M_rd v)), .int (M_faultPlace (M_rd v)), .int (M_lastFault (M_lf v)), .int (M_lastPlace (M_lf v)), .ref (q 15), .ref (q 16), .ref (q 17), .ref (q 18), .int (M_hasImage (M_im v)), .int (M_spanNow (M_rn v)), .ref (q 19), .int x11, .int (M_alonePlace (M_al v)), .int (M_aloneSteps (M_al v)), .int (M_aloneOut (M_al v)), .ref (q 20), .ref (q 21), .ref (q 22), .ref (q 23), .int (M_shotAlarm (M_ex v)), .int (M_drawn (M_ex v))]), ((q 1), aI K 700 (M_tape (M_tp v))), ((q 2), aI K 20 (M_number (M_cd v))), ((q 3), aZ K 5 (M_isTold (M_rd v))), ((q 4), aI K 80 (M_codeSort (M_cd v))), ((q 5), aI K 80 (M_codeA (M_cd v))), ((q 6), aI K 80 (M_codeB (M_cd v))), ((q 7), aI K 80 (M_codeC (M_cd v))), ((q 8), aI K 80 (M_codeName (M_cd v))), ((q 9), aI K 80 (M_codePlace (M_cd v))), ((q 10), aI K 80 (M_codeTo (M_cd v))), ((q 11), aI K 280 (M_labelName (M_cd v))), ((q 12), aI K 280 (M_labelAt (M_cd v))), ((q 13), aI K 64 (M_data (M_cd v))), ((q 14), aZ K 32 (M_hasData (M_rd v))), ((q 15), aI K 314 f125), ((q 16), aI K 314 (M_aside (M_ex v))), ((q 17), aI K 314 (M_further (M_ex v))), ((q 18), aI K 314 (M_image (M_im v))), ((q 19), aI K 3 (M_sizeNow (M_rn v))), ((q 20), aI K 8 (M_aloneRegister (M_al v))), ((q 21), aI K 4 (M_aloneReal (M_al v))), ((q 22), aI K 32 (M_aloneMemory (M_al v))), ((q 23), aI K 999 (M_aloneOutput (M_al v)))]) cx 15 rfl h124 dX10_stepped_561 ef125 rfl ?_
                          refine r_goto (pc := 562) (tgt := 686) cx dX10_stepped_562 (by decide) ?_
                          refine r_loc (loc' := [(0, .ref (q 0)), (1, .int a1), (7, .int (0 : Int32))]) [6, 7, 0] rfl ?_
                          exact hJ14 _ _ hf
                        · have hf := ifn h116 hf
                          by_cases h126 : x4 = (19 : Int32)
                          · have hf := ifp h126 hf
                            refine r_tin (pc := 65) (tgt := 565) cx (19 : Int32) h126 dX10_stepped_65 (by decide) (by decide) rfl (by decide) ?_
                            refine r_aload_n (pc := 565) cx dX10_stepped_565 6 rfl ?_
                            refine r_get (pc := 566) cx cf_X10 0 26 rfl (by decide) rfl wd_1342 dX10_stepped_566 ?_
                            refine r_iload (pc := 569) cx dX10_stepped_569 2 rfl ?_
                            refine r_aload_n (pc := 571) cx dX10_stepped_571 6 rfl ?_
                            refine r_get (pc := 572) cx cf_X10 0 6 rfl (by decide) rfl wd_1322 dX10_stepped_572 ?_
                            refine r_iload_n (pc := 575) cx dX10_stepped_575 5 rfl ?_
                            obtain ⟨h127, hf⟩ := chk_of hf
                            refine r_iald (pc := 576) cx 5 rfl h127 dX10_stepped_576 ?_
                            refine r_iadd (pc := 577) cx dX10_stepped_577 ?_
                            refine r_aload_n (pc := 578) cx dX10_stepped_578 6 rfl ?_
                            refine r_get (pc := 579) cx cf_X10 0 26 rfl (by decide) rfl wd_1342 dX10_stepped_579 ?_
                            refine r_iload (pc := 582) cx dX10_stepped_582 2 rfl ?_
                            refine r_aload_n (pc := 584) cx dX10_stepped_584 6 rfl ?_
                            refine r_get (pc := 585) cx cf_X10 0 7 rfl (by decide) rfl wd_1323 dX10_stepped_585 ?_
                            refine r_iload_n (pc := 588) cx dX10_stepped_588 5 rfl ?_
                            obtain ⟨h128, hf⟩ := chk_of hf
                            refine r_iald (pc := 589) cx 6 rfl h128 dX10_stepped_589 ?_
                            refine r_iadd (pc := 590) cx dX10_stepped_590 ?_
                            obtain ⟨h129, hf⟩ := chk_of hf
                            refine r_iald (pc := 591) cx 15 rfl h129 dX10_stepped_591 ?_
                            refine r_aload_n (pc := 592) cx dX10_stepped_592 6 rfl ?_
                            refine r_get (pc := 593) cx cf_X10 0 26 rfl (by decide) rfl wd_1342 dX10_stepped_593 ?_
                            refine r_iload (pc := 596) cx dX10_stepped_596 2 rfl ?_
                            refine r_aload_n (pc := 598) cx dX10_stepped_598 6 rfl ?_
                            refine r_get (pc := 599) cx cf_X10 0 8 rfl (by decide) rfl wd_1324 dX10_stepped_599 ?_
                            refine r_iload_n (pc := 602) cx dX10_stepped_602 5 rfl ?_
                            obtain ⟨h130, hf⟩ := chk_of hf
                            refine r_iald (pc := 603) cx 7 rfl h130 dX10_stepped_603 ?_
                            refine r_iadd (pc := 604) cx dX10_stepped_604 ?_
                            obtain ⟨h131, hf⟩ := chk_of hf
                            refine r_iald (pc := 605) cx 15 rfl h131 dX10_stepped_605 ?_
                            obtain ⟨r132, hc133, hf⟩ := bd_of hf
                            refine r_Si (pc := 606) (ws' := [((q 0), ob 9 [.int (M_thrown v), .ref (q 1), .int (M_taped (M_tp v)), .ref (q 2), .ref (q 3), .ref (q 4), .ref (q 5), .ref (q 6), .ref (q 7), .ref (q 8), .ref (q 9), .ref (q 10), .ref (q 11), .ref (q 12), .ref (q 13), .ref (q 14), .int (M_lines (M_rd v)), .int (M_size (M_rd v)), .int (M_at (M_rd v)), .int (M_place (M_rd v)), .int (M_sort (M_rd v)), .int (M_value (M_rd v)), .int (M_fault (M_rd v)), .int (M_faultPlace (M_rd v)), .int (M_lastFault (M_lf v)), .int (M_lastPlace (M_lf v)), .ref (q 15), .ref (q 16), .ref (q 17), .ref (q 18), .int (M_hasImage (M_im v)), .int (M_spanNow (M_rn v)), .ref (q 19), .int x11, .int (M_alonePlace (M_al v)), .int (M_aloneSteps (M_al v)), .int (M_aloneOut (M_al v)), .ref (q 20), .ref (q 21), .ref (q 22), .ref (q 23), .int (M_shotAlarm (M_ex v)), .int (M_drawn (M_ex v))]), ((q 1), aI K 700 (M_tape (M_tp v))), ((q 2), aI K 20 (M_number (M_cd v))), ((q 3), aZ K 5 (M_isTold (M_rd v))), ((q 4), aI K 80 (M_codeSort (M_cd v))), ((q 5), aI K 80 (M_codeA (M_cd v))), ((q 6), aI K 80 (M_codeB (M_cd v))), ((q 7), aI K 80 (M_codeC (M_cd v))), ((q 8), aI K 80 (M_codeName (M_cd v))), ((q 9), aI K 80 (M_codePlace (M_cd v))), ((q 10), aI K 80 (M_codeTo (M_cd v))), ((q 11), aI K 280 (M_labelName (M_cd v))), ((q 12), aI K 280 (M_labelAt (M_cd v))), ((q 13), aI K 64 (M_data (M_cd v))), ((q 14), aZ K 32 (M_hasData (M_rd v))), ((q 15), aI K 314 (M_s (M_rn v))), ((q 16), aI K 314 (M_aside (M_ex v))), ((q 17), aI K 314 (M_further (M_ex v))), ((q 18), aI K 314 (M_image (M_im v))), ((q 19), aI K 3 (M_sizeNow (M_rn v))), ((q 20), aI K 8 (M_aloneRegister (M_al v))), ((q 21), aI K 4 (M_aloneReal (M_al v))), ((q 22), aI K 32 (M_aloneMemory (M_al v))), ((q 23), aI K 999 (M_aloneOutput (M_al v)))]) cx [.int ((M_s (M_rn v)) ((x6 + ((M_codeB (M_cd v)) x2.toNatClampNeg))).toNatClampNeg), .int ((M_s (M_rn v)) ((x6 + ((M_codeC (M_cd v)) x2.toNatClampNeg))).toNatClampNeg)] [.int (x6 + ((M_codeA (M_cd v)) x2.toNatClampNeg)), .ref (q 15)] [] (m_M_multiplied l D K ((M_s (M_rn v)) ((x6 + ((M_codeB (M_cd v)) x2.toNatClampNeg))).toNatClampNeg) ((M_s (M_rn v)) ((x6 + ((M_codeC (M_cd v)) x2.toNatClampNeg))).toNatClampNeg) hc133) ys_X10_multiplied wd_1657 ⟨rfl, rfl⟩ (by decide) rfl rfl rfl (by decide) rfl (Nat.le_of_ble_eq_true rfl) dX10_stepped_606 ?_
                            obtain ⟨h134, hf⟩ := chk_of hf
                            obtain ⟨f135, ef135, hf⟩ := nm_of hf
                            refine r_iast (pc := 609) (ws' := [((q 0), ob 9 [.int (M_thrown v), .ref (q 1), .int (M_taped (M_tp v)), .ref (q 2), .ref (q 3), .ref (q 4), .ref (q 5), .ref (q 6), .ref (q 7), .ref (q 8), .ref (q 9), .ref (q 10), .ref (q 11), .ref (q 12), .ref (q 13), .ref (q 14), .int (M_lines (M_rd v)), .int (M_size (M_rd v)), .int (M_at (M_rd v)), .int (M_place (M_rd v)), .int (M_sort (M_rd v)), .int (M_value (M_rd v)), .int (M_fault (M_rd v)), .int (M_faultPlace (M_rd v)), .int (M_lastFault (M_lf v)), .int (M_lastPlace (M_lf v)), .ref (q 15), .ref (q 16), .ref (q 17), .ref (q 18), .int (M_hasImage (M_im v)), .int (M_spanNow (M_rn v)), .ref (q 19), .int x11, .int (M_alonePlace (M_al v)), .int (M_aloneSteps (M_al v)), .int (M_aloneOut (M_al v)), .ref (q 20), .ref (q 21), .ref (q 22), .ref (q 23), .int (M_shotAlarm (M_ex v)), .int (M_drawn (M_ex v))]), ((q 1), aI K 700 (M_tape (M_tp v))), ((q 2), aI K 20 (M_number (M_cd v))), ((q 3), aZ K 5 (M_isTold (M_rd v))), ((q 4), aI K 80 (M_codeSort (M_cd v))), ((q 5), aI K 80 (M_codeA (M_cd v))), ((q 6), aI K 80 (M_codeB (M_cd v))), ((q 7), aI K 80 (M_codeC (M_cd v))), ((q 8), aI K 80 (M_codeName (M_cd v))), ((q 9), aI K 80 (M_codePlace (M_cd v))), ((q 10), aI K 80 (M_codeTo (M_cd v))), ((q 11), aI K 280 (M_labelName (M_cd v))), ((q 12), aI K 280 (M_labelAt (M_cd v))), ((q 13), aI K 64 (M_data (M_cd v))), ((q 14), aZ K 32 (M_hasData (M_rd v))), ((q 15), aI K 314 f135), ((q 16), aI K 314 (M_aside (M_ex v))), ((q 17), aI K 314 (M_further (M_ex v))), ((q 18), aI K 314 (M_image (M_im v))), ((q 19), aI K 3 (M_sizeNow (M_rn v))), ((q 20), aI K 8 (M_aloneRegister (M_al v))), ((q 21), aI K 4 (M_aloneReal (M_al v))), ((q 22), aI K 32 (M_aloneMemory (M_al v))), ((q 23), aI K 999 (M_aloneOutput (M_al v)))]) cx 15 rfl h134 dX10_stepped_609 ef135 rfl ?_
                            refine r_goto (pc := 610) (tgt := 686) cx dX10_stepped_610 (by decide) ?_
                            refine r_loc (loc' := [(0, .ref (q 0)), (1, .int a1), (7, .int (0 : Int32))]) [6, 7, 0] rfl ?_
                            exact hJ14 _ _ hf
                          · have hf := ifn h126 hf
                            by_cases h136 : x4 = (20 : Int32)
                            · have hf := ifp h136 hf
                              refine r_tin (pc := 65) (tgt := 613) cx (20 : Int32) h136 dX10_stepped_65 (by decide) (by decide) rfl (by decide) ?_
                              refine r_aload_n (pc := 613) cx dX10_stepped_613 6 rfl ?_
                              refine r_aload_n (pc := 614) cx dX10_stepped_614 6 rfl ?_
                              refine r_get (pc := 615) cx cf_X10 0 11 rfl (by decide) rfl wd_1327 dX10_stepped_615 ?_
                              refine r_iload_n (pc := 618) cx dX10_stepped_618 5 rfl ?_
                              obtain ⟨h137, hf⟩ := chk_of hf
                              refine r_iald (pc := 619) cx 10 rfl h137 dX10_stepped_619 ?_
                              obtain ⟨x138, ex138, hf⟩ := nm_of hf
                              refine r_nm ex138 ?_
                              refine r_putI (pc := 620) (ws' := [((q 0), ob 9 [.int (M_thrown v), .ref (q 1), .int (M_taped (M_tp v)), .ref (q 2), .ref (q 3), .ref (q 4), .ref (q 5), .ref (q 6), .ref (q 7), .ref (q 8), .ref (q 9), .ref (q 10), .ref (q 11), .ref (q 12), .ref (q 13), .ref (q 14), .int (M_lines (M_rd v)), .int (M_size (M_rd v)), .int (M_at (M_rd v)), .int (M_place (M_rd v)), .int (M_sort (M_rd v)), .int (M_value (M_rd v)), .int (M_fault (M_rd v)), .int (M_faultPlace (M_rd v)), .int (M_lastFault (M_lf v)), .int (M_lastPlace (M_lf v)), .ref (q 15), .ref (q 16), .ref (q 17), .ref (q 18), .int (M_hasImage (M_im v)), .int (M_spanNow (M_rn v)), .ref (q 19), .int x138, .int (M_alonePlace (M_al v)), .int (M_aloneSteps (M_al v)), .int (M_aloneOut (M_al v)), .ref (q 20), .ref (q 21), .ref (q 22), .ref (q 23), .int (M_shotAlarm (M_ex v)), .int (M_drawn (M_ex v))]), ((q 1), aI K 700 (M_tape (M_tp v))), ((q 2), aI K 20 (M_number (M_cd v))), ((q 3), aZ K 5 (M_isTold (M_rd v))), ((q 4), aI K 80 (M_codeSort (M_cd v))), ((q 5), aI K 80 (M_codeA (M_cd v))), ((q 6), aI K 80 (M_codeB (M_cd v))), ((q 7), aI K 80 (M_codeC (M_cd v))), ((q 8), aI K 80 (M_codeName (M_cd v))), ((q 9), aI K 80 (M_codePlace (M_cd v))), ((q 10), aI K 80 (M_codeTo (M_cd v))), ((q 11), aI K 280 (M_labelName (M_cd v))), ((q 12), aI K 280 (M_labelAt (M_cd v))), ((q 13), aI K 64 (M_data (M_cd v))), ((q 14), aZ K 32 (M_hasData (M_rd v))), ((q 15), aI K 314 (M_s (M_rn v))), ((q 16), aI K 314 (M_aside (M_ex v))), ((q 17), aI K 314 (M_further (M_ex v))), ((q 18), aI K 314 (M_image (M_im v))), ((q 19), aI K 3 (M_sizeNow (M_rn v))), ((q 20), aI K 8 (M_aloneRegister (M_al v))), ((q 21), aI K 4 (M_aloneReal (M_al v))), ((q 22), aI K 32 (M_aloneMemory (M_al v))), ((q 23), aI K 999 (M_aloneOutput (M_al v)))]) cx cf_X10 0 33 rfl (by decide) (Nat.le_of_ble_eq_true rfl) rfl pfd_I wd_1349 dX10_stepped_620 rfl ?_
                              refine r_goto (pc := 623) (tgt := 686) cx dX10_stepped_623 (by decide) ?_
                              refine r_loc (loc' := [(0, .ref (q 0)), (1, .int a1), (7, .int (0 : Int32))]) [6, 7, 0] rfl ?_
                              exact hJ14 _ _ hf
                            · have hf := ifn h136 hf
                              refine r_tout (pc := 65) (tgt := 626) cx dX10_stepped_65 (by
                                have nh25 := toInt_ne h25
                                have mh25 : (7 : Int32).toInt = 7 := by decide
                                rw [mh25] at nh25
                                have nh31 := toInt_ne h31
                                have mh31 : (8 : Int32).toInt = 8 := by decide
                                rw [mh31] at nh31
                                have nh38 := toInt_ne h38
                                have mh38 : (9 : Int32).toInt = 9 := by decide
                                rw [mh38] at nh38
                                have nh45 := toInt_ne h45
                                have mh45 : (10 : Int32).toInt = 10 := by decide
                                rw [mh45] at nh45
                                have nh52 := toInt_ne h52
                                have mh52 : (11 : Int32).toInt = 11 := by decide
                                rw [mh52] at nh52
                                have nh59 := toInt_ne h59
                                have mh59 : (12 : Int32).toInt = 12 := by decide
                                rw [mh59] at nh59
                                have nh67 := toInt_ne h67
                                have mh67 : (13 : Int32).toInt = 13 := by decide
                                rw [mh67] at nh67
                                have nh83 := toInt_ne h83
                                have mh83 : (14 : Int32).toInt = 14 := by decide
                                rw [mh83] at nh83
                                have nh95 := toInt_ne h95
                                have mh95 : (15 : Int32).toInt = 15 := by decide
                                rw [mh95] at nh95
                                have nh101 := toInt_ne h101
                                have mh101 : (16 : Int32).toInt = 16 := by decide
                                rw [mh101] at nh101
                                have nh109 := toInt_ne h109
                                have mh109 : (17 : Int32).toInt = 17 := by decide
                                rw [mh109] at nh109
                                have nh116 := toInt_ne h116
                                have mh116 : (18 : Int32).toInt = 18 := by decide
                                rw [mh116] at nh116
                                have nh126 := toInt_ne h126
                                have mh126 : (19 : Int32).toInt = 19 := by decide
                                rw [mh126] at nh126
                                have nh136 := toInt_ne h136
                                have mh136 : (20 : Int32).toInt = 20 := by decide
                                rw [mh136] at nh136
                                omega) (by decide) ?_
                              refine r_aload_n (pc := 626) cx dX10_stepped_626 6 rfl ?_
                              refine r_iload_n (pc := 627) cx dX10_stepped_627 7 rfl ?_
                              refine r_iload_n (pc := 628) cx dX10_stepped_628 5 rfl ?_
                              refine r_iload_n (pc := 629) cx dX10_stepped_629 4 rfl ?_
                              refine r_aload_n (pc := 630) cx dX10_stepped_630 6 rfl ?_
                              refine r_get (pc := 631) cx cf_X10 0 26 rfl (by decide) rfl wd_1342 dX10_stepped_631 ?_
                              refine r_iload (pc := 634) cx dX10_stepped_634 3 rfl ?_
                              refine r_aload_n (pc := 636) cx dX10_stepped_636 6 rfl ?_
                              refine r_get (pc := 637) cx cf_X10 0 6 rfl (by decide) rfl wd_1322 dX10_stepped_637 ?_
                              refine r_iload_n (pc := 640) cx dX10_stepped_640 5 rfl ?_
                              obtain ⟨h139, hf⟩ := chk_of hf
                              refine r_iald (pc := 641) cx 5 rfl h139 dX10_stepped_641 ?_
                              refine r_iadd (pc := 642) cx dX10_stepped_642 ?_
                              obtain ⟨h140, hf⟩ := chk_of hf
                              refine r_iald (pc := 643) cx 15 rfl h140 dX10_stepped_643 ?_
                              refine r_iload (pc := 644) cx dX10_stepped_644 1 rfl ?_
                              refine r_aload_n (pc := 646) cx dX10_stepped_646 6 rfl ?_
                              refine r_get (pc := 647) cx cf_X10 0 26 rfl (by decide) rfl wd_1342 dX10_stepped_647 ?_
                              refine r_iload (pc := 650) cx dX10_stepped_650 2 rfl ?_
                              refine r_aload_n (pc := 652) cx dX10_stepped_652 6 rfl ?_
                              refine r_get (pc := 653) cx cf_X10 0 6 rfl (by decide) rfl wd_1322 dX10_stepped_653 ?_
                              refine r_iload_n (pc := 656) cx dX10_stepped_656 5 rfl ?_
                              obtain ⟨h141, hf⟩ := chk_of hf
                              refine r_iald (pc := 657) cx 5 rfl h141 dX10_stepped_657 ?_
                              refine r_iconst (pc := 658) cx dX10_stepped_658 ic_4 ?_
                              refine r_irem (pc := 659) cx dX10_stepped_659 (by decide) ?_
                              refine r_iadd (pc := 660) cx dX10_stepped_660 ?_
                              obtain ⟨x142, ex142, hf⟩ := nm_of hf
                              refine r_nm ex142 ?_
                              obtain ⟨h143, hf⟩ := chk_of hf
                              refine r_iald (pc := 661) cx 15 rfl h143 dX10_stepped_661 ?_
                              refine r_aload_n (pc := 662) cx dX10_stepped_662 6 rfl ?_
                              refine r_get (pc := 663) cx cf_X10 0 26 rfl (by decide) rfl wd_1342 dX10_stepped_663 ?_
                              refine r_iload (pc := 666) cx dX10_stepped_666 2 rfl ?_
                              refine r_aload_n (pc := 668) cx dX10_stepped_668 6 rfl ?_
                              refine r_get (pc := 669) cx cf_X10 0 7 rfl (by decide) rfl wd_1323 dX10_stepped_669 ?_
                              refine r_iload_n (pc := 672) cx dX10_stepped_672 5 rfl ?_
                              obtain ⟨h144, hf⟩ := chk_of hf
                              refine r_iald (pc := 673) cx 6 rfl h144 dX10_stepped_673 ?_
                              refine r_iconst (pc := 674) cx dX10_stepped_674 ic_4 ?_
                              refine r_irem (pc := 675) cx dX10_stepped_675 (by decide) ?_
                              refine r_iadd (pc := 676) cx dX10_stepped_676 ?_
                              obtain ⟨x145, ex145, hf⟩ := nm_of hf
                              refine r_nm ex145 ?_
                              obtain ⟨h146, hf⟩ := chk_of hf
                              refine r_iald (pc := 677) cx 15 rfl h146 dX10_stepped_677 ?_
                              obtain ⟨r147, hc148, hf⟩ := bd_of hf
                              refine r_Si (pc := 678) (ws' := [((q 0), ob 9 [.int (M_thrown v), .ref (q 1), .int (M_taped (M_tp v)), .ref (q 2), .ref (q 3), .ref (q 4), .ref (q 5), .ref (q 6), .ref (q 7), .ref (q 8), .ref (q 9), .ref (q 10), .ref (q 11), .ref (q 12), .ref (q 13), .ref (q 14), .int (M_lines (M_rd v)), .int (M_size (M_rd v)), .int (M_at (M_rd v)), .int (M_place (M_rd v)), .int (M_sort (M_rd v)), .int (M_value (M_rd v)), .int (M_fault (M_rd v)), .int (M_faultPlace (M_rd v)), .int (M_lastFault (M_lf v)), .int (M_lastPlace (M_lf v)), .ref (q 15), .ref (q 16), .ref (q 17), .ref (q 18), .int (M_hasImage (M_im v)), .int (M_spanNow (M_rn v)), .ref (q 19), .int x11, .int (M_alonePlace (M_al v)), .int (M_aloneSteps (M_al v)), .int (M_aloneOut (M_al v)), .ref (q 20), .ref (q 21), .ref (q 22), .ref (q 23), .int (M_shotAlarm (M_ex v)), .int (M_drawn (M_ex v))]), ((q 1), aI K 700 (M_tape (M_tp v))), ((q 2), aI K 20 (M_number (M_cd v))), ((q 3), aZ K 5 (M_isTold (M_rd v))), ((q 4), aI K 80 (M_codeSort (M_cd v))), ((q 5), aI K 80 (M_codeA (M_cd v))), ((q 6), aI K 80 (M_codeB (M_cd v))), ((q 7), aI K 80 (M_codeC (M_cd v))), ((q 8), aI K 80 (M_codeName (M_cd v))), ((q 9), aI K 80 (M_codePlace (M_cd v))), ((q 10), aI K 80 (M_codeTo (M_cd v))), ((q 11), aI K 280 (M_labelName (M_cd v))), ((q 12), aI K 280 (M_labelAt (M_cd v))), ((q 13), aI K 64 (M_data (M_cd v))), ((q 14), aZ K 32 (M_hasData (M_rd v))), ((q 15), aI K 314 (M_s (M_rn v))), ((q 16), aI K 314 (M_aside (M_ex v))), ((q 17), aI K 314 (M_further (M_ex v))), ((q 18), aI K 314 (M_image (M_im v))), ((q 19), aI K 3 (M_sizeNow (M_rn v))), ((q 20), aI K 8 (M_aloneRegister (M_al v))), ((q 21), aI K 4 (M_aloneReal (M_al v))), ((q 22), aI K 32 (M_aloneMemory (M_al v))), ((q 23), aI K 999 (M_aloneOutput (M_al v)))]) cx [.int x4, .int ((M_s (M_rn v)) ((x5 + ((M_codeA (M_cd v)) x2.toNatClampNeg))).toNatClampNeg), .int x10, .int ((M_s (M_rn v)) x142.toNatClampNeg), .int ((M_s (M_rn v)) x145.toNatClampNeg)] [.int x2, .int a1, .ref (q 0)] [] (m_M_goesBy l D K x4 ((M_s (M_rn v)) ((x5 + ((M_codeA (M_cd v)) x2.toNatClampNeg))).toNatClampNeg) x10 ((M_s (M_rn v)) x142.toNatClampNeg) ((M_s (M_rn v)) x145.toNatClampNeg) hc148) ys_X10_goesBy wd_1660 ⟨rfl, rfl⟩ (by decide) rfl rfl rfl (by decide) rfl (Nat.le_of_ble_eq_true rfl) dX10_stepped_678 ?_
                              obtain ⟨r149, v150, hc151, hf⟩ := bd2_of hf
                              refine r_Vi (pc := 681) (ws' := [((q 0), ob 9 [.int (M_thrown v150), .ref (q 1), .int (M_taped (M_tp v150)), .ref (q 2), .ref (q 3), .ref (q 4), .ref (q 5), .ref (q 6), .ref (q 7), .ref (q 8), .ref (q 9), .ref (q 10), .ref (q 11), .ref (q 12), .ref (q 13), .ref (q 14), .int (M_lines (M_rd v150)), .int (M_size (M_rd v150)), .int (M_at (M_rd v150)), .int (M_place (M_rd v150)), .int (M_sort (M_rd v150)), .int (M_value (M_rd v150)), .int (M_fault (M_rd v150)), .int (M_faultPlace (M_rd v150)), .int (M_lastFault (M_lf v150)), .int (M_lastPlace (M_lf v150)), .ref (q 15), .ref (q 16), .ref (q 17), .ref (q 18), .int (M_hasImage (M_im v150)), .int (M_spanNow (M_rn v150)), .ref (q 19), .int (M_placeThen (M_rn v150)), .int (M_alonePlace (M_al v150)), .int (M_aloneSteps (M_al v150)), .int (M_aloneOut (M_al v150)), .ref (q 20), .ref (q 21), .ref (q 22), .ref (q 23), .int (M_shotAlarm (M_ex v150)), .int (M_drawn (M_ex v150))]), ((q 1), aI K 700 (M_tape (M_tp v150))), ((q 2), aI K 20 (M_number (M_cd v150))), ((q 3), aZ K 5 (M_isTold (M_rd v150))), ((q 4), aI K 80 (M_codeSort (M_cd v150))), ((q 5), aI K 80 (M_codeA (M_cd v150))), ((q 6), aI K 80 (M_codeB (M_cd v150))), ((q 7), aI K 80 (M_codeC (M_cd v150))), ((q 8), aI K 80 (M_codeName (M_cd v150))), ((q 9), aI K 80 (M_codePlace (M_cd v150))), ((q 10), aI K 80 (M_codeTo (M_cd v150))), ((q 11), aI K 280 (M_labelName (M_cd v150))), ((q 12), aI K 280 (M_labelAt (M_cd v150))), ((q 13), aI K 64 (M_data (M_cd v150))), ((q 14), aZ K 32 (M_hasData (M_rd v150))), ((q 15), aI K 314 (M_s (M_rn v150))), ((q 16), aI K 314 (M_aside (M_ex v150))), ((q 17), aI K 314 (M_further (M_ex v150))), ((q 18), aI K 314 (M_image (M_im v150))), ((q 19), aI K 3 (M_sizeNow (M_rn v150))), ((q 20), aI K 8 (M_aloneRegister (M_al v150))), ((q 21), aI K 4 (M_aloneReal (M_al v150))), ((q 22), aI K 32 (M_aloneMemory (M_al v150))), ((q 23), aI K 999 (M_aloneOutput (M_al v150)))]) cx [.int a1, .int x2, .int r147] [] [0, 1, 2, 3, 4, 5, 6, 7, 8, 9, 10, 11, 12, 13, 14, 15, 16, 17, 18, 19, 20, 21, 22, 23] (m_M_branches l D K q ((M_tp v), (M_rd v), (M_lf v), (M_cd v), ((M_s (M_rn v)), (M_spanNow (M_rn v)), (M_sizeNow (M_rn v)), x11), (M_ex v), (M_im v), (M_al v), (M_thrown v)) a1 x2 r147 hc151) yv_X10_branches wd_1663 ⟨rfl, rfl⟩ (by decide) rfl rfl rfl (by decide) 0 rfl rfl rfl (Nat.le_of_ble_eq_true rfl) dX10_stepped_681 ?_
                              refine r_istore (pc := 684) (loc' := [(7, .int r149), (6, .int x10), (5, .int x6), (4, .int x5), (3, .int x4), (2, .int x2), (0, .ref (q 0)), (1, .int a1)]) cx dX10_stepped_684 (by decide) rfl ?_
                              refine r_loc (loc' := [(0, .ref (q 0)), (1, .int a1), (7, .int r149)]) [6, 7, 0] rfl ?_
                              exact hJ14 _ _ hf
theorem yv_X10_stepped : YV yX10_stepped cX10_stepped 8 (some .int) 1 := ⟨⟨by decide +kernel, by decide +kernel, by decide +kernel⟩, wd_1606, wd_102, wd_1605, wd_60⟩
