def f_M_thrown (v : T_M) : Option (Int32) :=
  (some (M_thrown v))
abbrev rm_M_thrown : Room := { frames := 0, cells := 0, slots := 0, locals := 0 }
set_option maxRecDepth 100000 in
set_option maxHeartbeats 4000000 in
theorem m_M_thrown (l : Launch) (D : va_G) (K : Nat → ClassId) (q : Nat → Nat) (v : T_M) {r_ : Int32} (hf : f_M_thrown v = some r_) : MI l yX10_thrown cX10_thrown 1 (some .int) rm_M_thrown D K [.ref (q 0)] (cl_M K q v) r_ (cl_M K q v) := by
  refine MI_of (loc0 := [(0, .ref (q 0))]) (by decide +kernel) rfl (Nat.le_of_ble_eq_true rfl) ?_
  intro p e s m args below meth c A cx
  unfold f_M_thrown at hf
  refine r_ws (ws' := [((q 0), ob 9 [.int (M_thrown v), .ref (q 1), .int (M_taped (M_tp v)), .ref (q 2), .ref (q 3), .ref (q 4), .ref (q 5), .ref (q 6), .ref (q 7), .ref (q 8), .ref (q 9), .ref (q 10), .ref (q 11), .ref (q 12), .ref (q 13), .ref (q 14), .int (M_lines (M_rd v)), .int (M_size (M_rd v)), .int (M_at (M_rd v)), .int (M_place (M_rd v)), .int (M_sort (M_rd v)), .int (M_value (M_rd v)), .int (M_fault (M_rd v)), .int (M_faultPlace (M_rd v)), .int (M_lastFault (M_lf v)), .int (M_lastPlace (M_lf v)), .ref (q 15), .ref (q 16), .ref (q 17), .ref (q 18), .int (M_hasImage (M_im v)), .int (M_spanNow (M_rn v)), .ref (q 19), .int (M_placeThen (M_rn v)), .int (M_alonePlace (M_al v)), .int (M_aloneSteps (M_al v)), .int (M_aloneOut (M_al v)), .ref (q 20), .ref (q 21), .ref (q 22), .ref (q 23), .int (M_shotAlarm (M_ex v)), .int (M_drawn (M_ex v))]), ((q 1), aI K 700 (M_tape (M_tp v))), ((q 2), aI K 20 (M_number (M_cd v))), ((q 3), aZ K 5 (M_isTold (M_rd v))), ((q 4), aI K 80 (M_codeSort (M_cd v))), ((q 5), aI K 80 (M_codeA (M_cd v))), ((q 6), aI K 80 (M_codeB (M_cd v))), ((q 7), aI K 80 (M_codeC (M_cd v))), ((q 8), aI K 80 (M_codeName (M_cd v))), ((q 9), aI K 80 (M_codePlace (M_cd v))), ((q 10), aI K 80 (M_codeTo (M_cd v))), ((q 11), aI K 280 (M_labelName (M_cd v))), ((q 12), aI K 280 (M_labelAt (M_cd v))), ((q 13), aI K 64 (M_data (M_cd v))), ((q 14), aZ K 32 (M_hasData (M_rd v))), ((q 15), aI K 314 (M_s (M_rn v))), ((q 16), aI K 314 (M_aside (M_ex v))), ((q 17), aI K 314 (M_further (M_ex v))), ((q 18), aI K 314 (M_image (M_im v))), ((q 19), aI K 3 (M_sizeNow (M_rn v))), ((q 20), aI K 8 (M_aloneRegister (M_al v))), ((q 21), aI K 4 (M_aloneReal (M_al v))), ((q 22), aI K 32 (M_aloneMemory (M_al v))), ((q 23), aI K 999 (M_aloneOutput (M_al v)))]) rfl ?_
  refine r_aload_n (pc := 0) cx dX10_thrown_0 0 rfl ?_
  refine r_get (pc := 1) cx cf_X10 0 0 rfl (by decide) rfl wd_1316 dX10_thrown_1 ?_
  have hi := inj1 hf
  exact r_iret (pc := 4) cx hi rfl dX10_thrown_4
theorem yv_X10_thrown : YV yX10_thrown cX10_thrown 1 (some .int) 0 := ⟨⟨by decide +kernel, by decide +kernel, by decide +kernel⟩, wd_1450, wd_102, wd_1448, wd_1449⟩
def f_M_feed_L20 (v : T_M) (a1 : Int32) (a2 : Int32) (a3 : Int32) (a4 : Int32) (a5 : Int32) (k20_110 : (Nat → Int32) → Option (Int32 × T_M)) : Nat → Int32 → (Nat → Int32) → Option (Int32 × T_M)
  | 0, _, _ => none
  | n20 + 1, x2, f3 =>
    (if (20 : Int32) ≤ x2 then (k20_110 f3) else (nm (fun (y6 : Int32) => ((nm ((y6 >>> (((24 : Int32) - ((8 : Int32) * (x2 - x2 / (4 : Int32) * (4 : Int32)))) &&& 31)) &&& (255 : Int32)) fun (x8 : Int32) => (if ix ((M_taped (M_tp v)) + x2) 700 then (nm (upd f3 (((M_taped (M_tp v)) + x2)).toNatClampNeg x8) fun (f10 : Nat → Int32) => (nm (x2 + (1 : Int32)) fun (x11 : Int32) => (f_M_feed_L20 v a1 a2 a3 a4 a5 k20_110 n20 x11 f10))) else none)) : Option (Int32 × T_M))) fun J7 => (if (4 : Int32) ≤ x2 then (if (8 : Int32) ≤ x2 then (if (12 : Int32) ≤ x2 then (if (16 : Int32) ≤ x2 then (J7 a5) else (J7 a4)) else (J7 a3)) else (J7 a2)) else (J7 a1))))
def f_M_feed (v : T_M) (a1 : Int32) (a2 : Int32) (a3 : Int32) (a4 : Int32) (a5 : Int32) : Option (Int32 × T_M) :=
  (if (M_taped (M_tp v)) ≤ (680 : Int32) then (f_M_feed_L20 v a1 a2 a3 a4 a5 (fun (f4 : (Nat → Int32)) => (nm ((M_taped (M_tp v)) + (20 : Int32)) fun (x16 : Int32) => (some (x16, ((f4, x16), (M_rd v), (M_lf v), (M_cd v), (M_rn v), (M_ex v), (M_im v), (M_al v), (0 : Int32)))))) LF (0 : Int32) (M_tape (M_tp v))) else (some ((-1 : Int32), ((M_tp v), (M_rd v), (M_lf v), (M_cd v), (M_rn v), (M_ex v), (M_im v), (M_al v), (0 : Int32)))))
abbrev rm_M_feed : Room := { frames := 0, cells := 0, slots := 0, locals := 0 }
set_option maxRecDepth 100000 in
set_option maxHeartbeats 4000000 in
theorem m_M_feed (l : Launch) (D : va_G) (K : Nat → ClassId) (q : Nat → Nat) (v : T_M) (a1 : Int32) (a2 : Int32) (a3 : Int32) (a4 : Int32) (a5 : Int32) {r_ : Int32} {o_v : T_M} (hf : f_M_feed v a1 a2 a3 a4 a5 = some (r_, o_v)) : MI l yX10_feed cX10_feed 8 (some .int) rm_M_feed D K [.ref (q 0), .int a1, .int a2, .int a3, .int a4, .int a5] (cl_M K q v) r_ (cl_M K q o_v) := by
  refine MI_of (loc0 := [(0, .ref (q 0)), (1, .int a1), (2, .int a2), (3, .int a3), (4, .int a4), (5, .int a5)]) (by decide +kernel) rfl (Nat.le_of_ble_eq_true rfl) ?_
  intro p e s m args below meth c A cx
  unfold f_M_feed at hf
  refine r_ws (ws' := [((q 0), ob 9 [.int (M_thrown v), .ref (q 1), .int (M_taped (M_tp v)), .ref (q 2), .ref (q 3), .ref (q 4), .ref (q 5), .ref (q 6), .ref (q 7), .ref (q 8), .ref (q 9), .ref (q 10), .ref (q 11), .ref (q 12), .ref (q 13), .ref (q 14), .int (M_lines (M_rd v)), .int (M_size (M_rd v)), .int (M_at (M_rd v)), .int (M_place (M_rd v)), .int (M_sort (M_rd v)), .int (M_value (M_rd v)), .int (M_fault (M_rd v)), .int (M_faultPlace (M_rd v)), .int (M_lastFault (M_lf v)), .int (M_lastPlace (M_lf v)), .ref (q 15), .ref (q 16), .ref (q 17), .ref (q 18), .int (M_hasImage (M_im v)), .int (M_spanNow (M_rn v)), .ref (q 19), .int (M_placeThen (M_rn v)), .int (M_alonePlace (M_al v)), .int (M_aloneSteps (M_al v)), .int (M_aloneOut (M_al v)), .ref (q 20), .ref (q 21), .ref (q 22), .ref (q 23), .int (M_shotAlarm (M_ex v)), .int (M_drawn (M_ex v))]), ((q 1), aI K 700 (M_tape (M_tp v))), ((q 2), aI K 20 (M_number (M_cd v))), ((q 3), aZ K 5 (M_isTold (M_rd v))), ((q 4), aI K 80 (M_codeSort (M_cd v))), ((q 5), aI K 80 (M_codeA (M_cd v))), ((q 6), aI K 80 (M_codeB (M_cd v))), ((q 7), aI K 80 (M_codeC (M_cd v))), ((q 8), aI K 80 (M_codeName (M_cd v))), ((q 9), aI K 80 (M_codePlace (M_cd v))), ((q 10), aI K 80 (M_codeTo (M_cd v))), ((q 11), aI K 280 (M_labelName (M_cd v))), ((q 12), aI K 280 (M_labelAt (M_cd v))), ((q 13), aI K 64 (M_data (M_cd v))), ((q 14), aZ K 32 (M_hasData (M_rd v))), ((q 15), aI K 314 (M_s (M_rn v))), ((q 16), aI K 314 (M_aside (M_ex v))), ((q 17), aI K 314 (M_further (M_ex v))), ((q 18), aI K 314 (M_image (M_im v))), ((q 19), aI K 3 (M_sizeNow (M_rn v))), ((q 20), aI K 8 (M_aloneRegister (M_al v))), ((q 21), aI K 4 (M_aloneReal (M_al v))), ((q 22), aI K 32 (M_aloneMemory (M_al v))), ((q 23), aI K 999 (M_aloneOutput (M_al v)))]) rfl ?_
  refine r_aload_n (pc := 0) cx dX10_feed_0 0 rfl ?_
  refine r_iconst (pc := 1) cx dX10_feed_1 ic_0 ?_
  refine r_putI (pc := 2) (ws' := [((q 0), ob 9 [.int (0 : Int32), .ref (q 1), .int (M_taped (M_tp v)), .ref (q 2), .ref (q 3), .ref (q 4), .ref (q 5), .ref (q 6), .ref (q 7), .ref (q 8), .ref (q 9), .ref (q 10), .ref (q 11), .ref (q 12), .ref (q 13), .ref (q 14), .int (M_lines (M_rd v)), .int (M_size (M_rd v)), .int (M_at (M_rd v)), .int (M_place (M_rd v)), .int (M_sort (M_rd v)), .int (M_value (M_rd v)), .int (M_fault (M_rd v)), .int (M_faultPlace (M_rd v)), .int (M_lastFault (M_lf v)), .int (M_lastPlace (M_lf v)), .ref (q 15), .ref (q 16), .ref (q 17), .ref (q 18), .int (M_hasImage (M_im v)), .int (M_spanNow (M_rn v)), .ref (q 19), .int (M_placeThen (M_rn v)), .int (M_alonePlace (M_al v)), .int (M_aloneSteps (M_al v)), .int (M_aloneOut (M_al v)), .ref (q 20), .ref (q 21), .ref (q 22), .ref (q 23), .int (M_shotAlarm (M_ex v)), .int (M_drawn (M_ex v))]), ((q 1), aI K 700 (M_tape (M_tp v))), ((q 2), aI K 20 (M_number (M_cd v))), ((q 3), aZ K 5 (M_isTold (M_rd v))), ((q 4), aI K 80 (M_codeSort (M_cd v))), ((q 5), aI K 80 (M_codeA (M_cd v))), ((q 6), aI K 80 (M_codeB (M_cd v))), ((q 7), aI K 80 (M_codeC (M_cd v))), ((q 8), aI K 80 (M_codeName (M_cd v))), ((q 9), aI K 80 (M_codePlace (M_cd v))), ((q 10), aI K 80 (M_codeTo (M_cd v))), ((q 11), aI K 280 (M_labelName (M_cd v))), ((q 12), aI K 280 (M_labelAt (M_cd v))), ((q 13), aI K 64 (M_data (M_cd v))), ((q 14), aZ K 32 (M_hasData (M_rd v))), ((q 15), aI K 314 (M_s (M_rn v))), ((q 16), aI K 314 (M_aside (M_ex v))), ((q 17), aI K 314 (M_further (M_ex v))), ((q 18), aI K 314 (M_image (M_im v))), ((q 19), aI K 3 (M_sizeNow (M_rn v))), ((q 20), aI K 8 (M_aloneRegister (M_al v))), ((q 21), aI K 4 (M_aloneReal (M_al v))), ((q 22), aI K 32 (M_aloneMemory (M_al v))), ((q 23), aI K 999 (M_aloneOutput (M_al v)))]) cx cf_X10 0 0 rfl (by decide) (Nat.le_of_ble_eq_true rfl) rfl pfd_I wd_1316 dX10_feed_2 rfl ?_
  refine r_aload_n (pc := 5) cx dX10_feed_5 0 rfl ?_
  refine r_get (pc := 6) cx cf_X10 0 2 rfl (by decide) rfl wd_1318 dX10_feed_6 ?_
  refine r_sipush (pc := 9) cx dX10_feed_9 sp_680 ?_
  refine r_icmp_le (pc := 12) (tgt := 17) cx dX10_feed_12 (by decide) (fun h1 => ?_) (fun h1 => ?_)
  · replace hf := ifp h1 hf
    refine r_iconst (pc := 17) cx dX10_feed_17 ic_0 ?_
    refine r_istore (pc := 18) (loc' := [(6, .int (0 : Int32)), (0, .ref (q 0)), (1, .int a1), (2, .int a2), (3, .int a3), (4, .int a4), (5, .int a5)]) cx dX10_feed_18 (by decide) rfl ?_
    have hL20 : ∀ (k20_110 : (Nat → Int32) → Option (Int32 × T_M)), (∀ (f4 : (Nat → Int32)), k20_110 f4 = some (r_, o_v) → WW p l e rm_M_feed s m args below meth c D A 8 0 0 (MQ below (QI D K A r_ (cl_M K q o_v)) args s 0 0 A) ([((q 0), ob 9 [.int (0 : Int32), .ref (q 1), .int (M_taped (M_tp v)), .ref (q 2), .ref (q 3), .ref (q 4), .ref (q 5), .ref (q 6), .ref (q 7), .ref (q 8), .ref (q 9), .ref (q 10), .ref (q 11), .ref (q 12), .ref (q 13), .ref (q 14), .int (M_lines (M_rd v)), .int (M_size (M_rd v)), .int (M_at (M_rd v)), .int (M_place (M_rd v)), .int (M_sort (M_rd v)), .int (M_value (M_rd v)), .int (M_fault (M_rd v)), .int (M_faultPlace (M_rd v)), .int (M_lastFault (M_lf v)), .int (M_lastPlace (M_lf v)), .ref (q 15), .ref (q 16), .ref (q 17), .ref (q 18), .int (M_hasImage (M_im v)), .int (M_spanNow (M_rn v)), .ref (q 19), .int (M_placeThen (M_rn v)), .int (M_alonePlace (M_al v)), .int (M_aloneSteps (M_al v)), .int (M_aloneOut (M_al v)), .ref (q 20), .ref (q 21), .ref (q 22), .ref (q 23), .int (M_shotAlarm (M_ex v)), .int (M_drawn (M_ex v))]), ((q 1), aI K 700 f4), ((q 2), aI K 20 (M_number (M_cd v))), ((q 3), aZ K 5 (M_isTold (M_rd v))), ((q 4), aI K 80 (M_codeSort (M_cd v))), ((q 5), aI K 80 (M_codeA (M_cd v))), ((q 6), aI K 80 (M_codeB (M_cd v))), ((q 7), aI K 80 (M_codeC (M_cd v))), ((q 8), aI K 80 (M_codeName (M_cd v))), ((q 9), aI K 80 (M_codePlace (M_cd v))), ((q 10), aI K 80 (M_codeTo (M_cd v))), ((q 11), aI K 280 (M_labelName (M_cd v))), ((q 12), aI K 280 (M_labelAt (M_cd v))), ((q 13), aI K 64 (M_data (M_cd v))), ((q 14), aZ K 32 (M_hasData (M_rd v))), ((q 15), aI K 314 (M_s (M_rn v))), ((q 16), aI K 314 (M_aside (M_ex v))), ((q 17), aI K 314 (M_further (M_ex v))), ((q 18), aI K 314 (M_image (M_im v))), ((q 19), aI K 3 (M_sizeNow (M_rn v))), ((q 20), aI K 8 (M_aloneRegister (M_al v))), ((q 21), aI K 4 (M_aloneReal (M_al v))), ((q 22), aI K 32 (M_aloneMemory (M_al v))), ((q 23), aI K 999 (M_aloneOutput (M_al v)))]) ([(0, .ref (q 0))]) ([]) 110) → ∀ (n20 : Nat) (x2 : Int32) (f3 : (Nat → Int32)), f_M_feed_L20 v a1 a2 a3 a4 a5 k20_110 n20 x2 f3 = some (r_, o_v) → WW p l e rm_M_feed s m args below meth c D A 8 0 0 (MQ below (QI D K A r_ (cl_M K q o_v)) args s 0 0 A) ([((q 0), ob 9 [.int (0 : Int32), .ref (q 1), .int (M_taped (M_tp v)), .ref (q 2), .ref (q 3), .ref (q 4), .ref (q 5), .ref (q 6), .ref (q 7), .ref (q 8), .ref (q 9), .ref (q 10), .ref (q 11), .ref (q 12), .ref (q 13), .ref (q 14), .int (M_lines (M_rd v)), .int (M_size (M_rd v)), .int (M_at (M_rd v)), .int (M_place (M_rd v)), .int (M_sort (M_rd v)), .int (M_value (M_rd v)), .int (M_fault (M_rd v)), .int (M_faultPlace (M_rd v)), .int (M_lastFault (M_lf v)), .int (M_lastPlace (M_lf v)), .ref (q 15), .ref (q 16), .ref (q 17), .ref (q 18), .int (M_hasImage (M_im v)), .int (M_spanNow (M_rn v)), .ref (q 19), .int (M_placeThen (M_rn v)), .int (M_alonePlace (M_al v)), .int (M_aloneSteps (M_al v)), .int (M_aloneOut (M_al v)), .ref (q 20), .ref (q 21), .ref (q 22), .ref (q 23), .int (M_shotAlarm (M_ex v)), .int (M_drawn (M_ex v))]), ((q 1), aI K 700 f3), ((q 2), aI K 20 (M_number (M_cd v))), ((q 3), aZ K 5 (M_isTold (M_rd v))), ((q 4), aI K 80 (M_codeSort (M_cd v))), ((q 5), aI K 80 (M_codeA (M_cd v))), ((q 6), aI K 80 (M_codeB (M_cd v))), ((q 7), aI K 80 (M_codeC (M_cd v))), ((q 8), aI K 80 (M_codeName (M_cd v))), ((q 9), aI K 80 (M_codePlace (M_cd v))), ((q 10), aI K 80 (M_codeTo (M_cd v))), ((q 11), aI K 280 (M_labelName (M_cd v))), ((q 12), aI K 280 (M_labelAt (M_cd v))), ((q 13), aI K 64 (M_data (M_cd v))), ((q 14), aZ K 32 (M_hasData (M_rd v))), ((q 15), aI K 314 (M_s (M_rn v))), ((q 16), aI K 314 (M_aside (M_ex v))), ((q 17), aI K 314 (M_further (M_ex v))), ((q 18), aI K 314 (M_image (M_im v))), ((q 19), aI K 3 (M_sizeNow (M_rn v))), ((q 20), aI K 8 (M_aloneRegister (M_al v))), ((q 21), aI K 4 (M_aloneReal (M_al v))), ((q 22), aI K 32 (M_aloneMemory (M_al v))), ((q 23), aI K 999 (M_aloneOutput (M_al v)))]) ([(0, .ref (q 0)), (1, .int a1), (2, .int a2), (3, .int a3), (4, .int a4), (5, .int a5), (6, .int x2)]) ([]) 20 := by
      clear hf
      intro k20_110 hk20_110 n20
      induction n20 with
      | zero => intro x2 f3 hf; exact (nomatch (show (none : Option (Int32 × T_M)) = some _ from hf))
      | succ n20 ih20 =>
        intro x2 f3 hf
        rw [f_M_feed_L20] at hf
        refine r_iload (pc := 20) cx dX10_feed_20 6 rfl ?_
        refine r_bipush (pc := 22) cx dX10_feed_22 bp_20 ?_
        refine r_icmp_ge (pc := 24) (tgt := 110) cx dX10_feed_24 (by decide) (fun h5 => ?_) (fun h5 => ?_)
        · replace hf := ifp h5 hf
          refine r_loc (loc' := [(0, .ref (q 0))]) [0] rfl ?_
          exact hk20_110 _ hf
        · replace hf := ifn h5 hf
          refine r_iload (pc := 27) cx dX10_feed_27 6 rfl ?_
          refine r_iconst (pc := 29) cx dX10_feed_29 ic_4 ?_
          replace hf := nm_of hf
          obtain ⟨J7, eJ7, hf⟩ := hf
          have hJ7 : ∀ (y6 : Int32), J7 y6 = some (r_, o_v) → WW p l e rm_M_feed s m args below meth c D A 8 0 0 (MQ below (QI D K A r_ (cl_M K q o_v)) args s 0 0 A) ([((q 0), ob 9 [.int (0 : Int32), .ref (q 1), .int (M_taped (M_tp v)), .ref (q 2), .ref (q 3), .ref (q 4), .ref (q 5), .ref (q 6), .ref (q 7), .ref (q 8), .ref (q 9), .ref (q 10), .ref (q 11), .ref (q 12), .ref (q 13), .ref (q 14), .int (M_lines (M_rd v)), .int (M_size (M_rd v)), .int (M_at (M_rd v)), .int (M_place (M_rd v)), .int (M_sort (M_rd v)), .int (M_value (M_rd v)), .int (M_fault (M_rd v)), .int (M_faultPlace (M_rd v)), .int (M_lastFault (M_lf v)), .int (M_lastPlace (M_lf v)), .ref (q 15), .ref (q 16), .ref (q 17), .ref (q 18), .int (M_hasImage (M_im v)), .int (M_spanNow (M_rn v)), .ref (q 19), .int (M_placeThen (M_rn v)), .int (M_alonePlace (M_al v)), .int (M_aloneSteps (M_al v)), .int (M_aloneOut (M_al v)), .ref (q 20), .ref (q 21), .ref (q 22), .ref (q 23), .int (M_shotAlarm (M_ex v)), .int (M_drawn (M_ex v))]), ((q 1), aI K 700 f3), ((q 2), aI K 20 (M_number (M_cd v))), ((q 3), aZ K 5 (M_isTold (M_rd v))), ((q 4), aI K 80 (M_codeSort (M_cd v))), ((q 5), aI K 80 (M_codeA (M_cd v))), ((q 6), aI K 80 (M_codeB (M_cd v))), ((q 7), aI K 80 (M_codeC (M_cd v))), ((q 8), aI K 80 (M_codeName (M_cd v))), ((q 9), aI K 80 (M_codePlace (M_cd v))), ((q 10), aI K 80 (M_codeTo (M_cd v))), ((q 11), aI K 280 (M_labelName (M_cd v))), ((q 12), aI K 280 (M_labelAt (M_cd v))), ((q 13), aI K 64 (M_data (M_cd v))), ((q 14), aZ K 32 (M_hasData (M_rd v))), ((q 15), aI K 314 (M_s (M_rn v))), ((q 16), aI K 314 (M_aside (M_ex v))), ((q 17), aI K 314 (M_further (M_ex v))), ((q 18), aI K 314 (M_image (M_im v))), ((q 19), aI K 3 (M_sizeNow (M_rn v))), ((q 20), aI K 8 (M_aloneRegister (M_al v))), ((q 21), aI K 4 (M_aloneReal (M_al v))), ((q 22), aI K 32 (M_aloneMemory (M_al v))), ((q 23), aI K 999 (M_aloneOutput (M_al v)))]) ([(0, .ref (q 0)), (1, .int a1), (2, .int a2), (3, .int a3), (4, .int a4), (5, .int a5), (6, .int x2)]) ([.int y6]) 73 := by
            clear hf
            intro y6 hf
            rw [eJ7] at hf
            refine r_istore (pc := 73) (loc' := [(7, .int y6), (0, .ref (q 0)), (1, .int a1), (2, .int a2), (3, .int a3), (4, .int a4), (5, .int a5), (6, .int x2)]) cx dX10_feed_73 (by decide) rfl ?_
            refine r_aload_n (pc := 75) cx dX10_feed_75 1 rfl ?_
            refine r_get (pc := 76) cx cf_X10 0 1 rfl (by decide) rfl wd_1317 dX10_feed_76 ?_
            refine r_aload_n (pc := 79) cx dX10_feed_79 1 rfl ?_
            refine r_get (pc := 80) cx cf_X10 0 2 rfl (by decide) rfl wd_1318 dX10_feed_80 ?_
            refine r_iload (pc := 83) cx dX10_feed_83 7 rfl ?_
            refine r_iadd (pc := 85) cx dX10_feed_85 ?_
            refine r_iload (pc := 86) cx dX10_feed_86 0 rfl ?_
            refine r_bipush (pc := 88) cx dX10_feed_88 bp_24 ?_
            refine r_bipush (pc := 90) cx dX10_feed_90 bp_8 ?_
            refine r_iload (pc := 92) cx dX10_feed_92 7 rfl ?_
            refine r_iconst (pc := 94) cx dX10_feed_94 ic_4 ?_
            refine r_irem (pc := 95) cx dX10_feed_95 (by decide) ?_
            refine r_imul (pc := 96) cx dX10_feed_96 ?_
            refine r_isub (pc := 97) cx dX10_feed_97 ?_
            refine r_ishr (pc := 98) cx dX10_feed_98 ?_
            refine r_sipush (pc := 99) cx dX10_feed_99 sp_255 ?_
            refine r_iand (pc := 102) cx dX10_feed_102 ?_
            replace hf := nm_of hf
            obtain ⟨x8, ex8, hf⟩ := hf
            refine r_nm ex8 ?_
            replace hf := chk_of hf
            obtain ⟨h9, hf⟩ := hf
            replace hf := nm_of hf
            obtain ⟨f10, ef10, hf⟩ := hf
            refine r_iast (pc := 103) (ws' := [((q 0), ob 9 [.int (0 : Int32), .ref (q 1), .int (M_taped (M_tp v)), .ref (q 2), .ref (q 3), .ref (q 4), .ref (q 5), .ref (q 6), .ref (q 7), .ref (q 8), .ref (q 9), .ref (q 10), .ref (q 11), .ref (q 12), .ref (q 13), .ref (q 14), .int (M_lines (M_rd v)), .int (M_size (M_rd v)), .int (M_at (M_rd v)), .int (M_place (M_rd v)), .int (M_sort (M_rd v)), .int (M_value (M_rd v)), .int (M_fault (M_rd v)), .int (M_faultPlace (M_rd v)), .int (M_lastFault (M_lf v)), .int (M_lastPlace (M_lf v)), .ref (q 15), .ref (q 16), .ref (q 17), .ref (q 18), .int (M_hasImage (M_im v)), .int (M_spanNow (M_rn v)), .ref (q 19), .int (M_placeThen (M_rn v)), .int (M_alonePlace (M_al v)), .int (M_aloneSteps (M_al v)), .int (M_aloneOut (M_al v)), .ref (q 20), .ref (q 21), .ref (q 22), .ref (q 23), .int (M_shotAlarm (M_ex v)), .int (M_drawn (M_ex v))]), ((q 1), aI K 700 f10), ((q 2), aI K 20 (M_number (M_cd v))), ((q 3), aZ K 5 (M_isTold (M_rd v))), ((q 4), aI K 80 (M_codeSort (M_cd v))), ((q 5), aI K 80 (M_codeA (M_cd v))), ((q 6), aI K 80 (M_codeB (M_cd v))), ((q 7), aI K 80 (M_codeC (M_cd v))), ((q 8), aI K 80 (M_codeName (M_cd v))), ((q 9), aI K 80 (M_codePlace (M_cd v))), ((q 10), aI K 80 (M_codeTo (M_cd v))), ((q 11), aI K 280 (M_labelName (M_cd v))), ((q 12), aI K 280 (M_labelAt (M_cd v))), ((q 13), aI K 64 (M_data (M_cd v))), ((q 14), aZ K 32 (M_hasData (M_rd v))), ((q 15), aI K 314 (M_s (M_rn v))), ((q 16), aI K 314 (M_aside (M_ex v))), ((q 17), aI K 314 (M_further (M_ex v))), ((q 18), aI K 314 (M_image (M_im v))), ((q 19), aI K 3 (M_sizeNow (M_rn v))), ((q 20), aI K 8 (M_aloneRegister (M_al v))), ((q 21), aI K 4 (M_aloneReal (M_al v))), ((q 22), aI K 32 (M_aloneMemory (M_al v))), ((q 23), aI K 999 (M_aloneOutput (M_al v)))]) cx 1 rfl h9 dX10_feed_103 ef10 rfl ?_
            replace hf := nm_of hf
            obtain ⟨x11, ex11, hf⟩ := hf
            refine r_iinc (pc := 104) (loc' := [(6, .int x11), (7, .int y6), (0, .ref (q 0)), (1, .int a1), (2, .int a2), (3, .int a3), (4, .int a4), (5, .int a5)]) (v := x11) cx dX10_feed_104 7 rfl ((congrArg (fun z => x2 + z) ic_1).trans ex11.symm) (by decide) rfl ?_
            refine r_goto (pc := 107) (tgt := 20) cx dX10_feed_107 (by decide) ?_
            refine r_loc (loc' := [(0, .ref (q 0)), (1, .int a1), (2, .int a2), (3, .int a3), (4, .int a4), (5, .int a5), (6, .int x11)]) [2, 3, 4, 5, 6, 7, 0] rfl ?_
            exact ih20 _ _ hf
          refine r_icmp_ge (pc := 30) (tgt := 37) cx dX10_feed_30 (by decide) (fun h12 => ?_) (fun h12 => ?_)
          · replace hf := ifp h12 hf
            refine r_iload (pc := 37) cx dX10_feed_37 6 rfl ?_
            refine r_bipush (pc := 39) cx dX10_feed_39 bp_8 ?_
            refine r_icmp_ge (pc := 41) (tgt := 48) cx dX10_feed_41 (by decide) (fun h13 => ?_) (fun h13 => ?_)
            · replace hf := ifp h13 hf
              refine r_iload (pc := 48) cx dX10_feed_48 6 rfl ?_
              refine r_bipush (pc := 50) cx dX10_feed_50 bp_12 ?_
              refine r_icmp_ge (pc := 52) (tgt := 59) cx dX10_feed_52 (by decide) (fun h14 => ?_) (fun h14 => ?_)
              · replace hf := ifp h14 hf
                refine r_iload (pc := 59) cx dX10_feed_59 6 rfl ?_
                refine r_bipush (pc := 61) cx dX10_feed_61 bp_16 ?_
                refine r_icmp_ge (pc := 63) (tgt := 71) cx dX10_feed_63 (by decide) (fun h15 => ?_) (fun h15 => ?_)
                · replace hf := ifp h15 hf
                  refine r_iload (pc := 71) cx dX10_feed_71 5 rfl ?_
                  exact hJ7 _ hf
                · replace hf := ifn h15 hf
                  refine r_iload (pc := 66) cx dX10_feed_66 4 rfl ?_
                  refine r_goto (pc := 68) (tgt := 73) cx dX10_feed_68 (by decide) ?_
                  exact hJ7 _ hf
              · replace hf := ifn h14 hf
                refine r_iload_n (pc := 55) cx dX10_feed_55 3 rfl ?_
                refine r_goto (pc := 56) (tgt := 73) cx dX10_feed_56 (by decide) ?_
                exact hJ7 _ hf
            · replace hf := ifn h13 hf
              refine r_iload_n (pc := 44) cx dX10_feed_44 2 rfl ?_
              refine r_goto (pc := 45) (tgt := 73) cx dX10_feed_45 (by decide) ?_
              exact hJ7 _ hf
          · replace hf := ifn h12 hf
            refine r_iload_n (pc := 33) cx dX10_feed_33 1 rfl ?_
            refine r_goto (pc := 34) (tgt := 73) cx dX10_feed_34 (by decide) ?_
            exact hJ7 _ hf
    refine r_loc (loc' := [(0, .ref (q 0)), (1, .int a1), (2, .int a2), (3, .int a3), (4, .int a4), (5, .int a5), (6, .int (0 : Int32))]) [1, 2, 3, 4, 5, 6, 0] rfl ?_
    refine hL20 _ (fun f4 hf => ?_) _ _ _ hf
    refine r_aload_n (pc := 110) cx dX10_feed_110 0 rfl ?_
    refine r_dup (pc := 111) cx dX10_feed_111 rfl ?_
    refine r_get (pc := 112) cx cf_X10 0 2 rfl (by decide) rfl wd_1318 dX10_feed_112 ?_
    refine r_bipush (pc := 115) cx dX10_feed_115 bp_20 ?_
    refine r_iadd (pc := 117) cx dX10_feed_117 ?_
    replace hf := nm_of hf
    obtain ⟨x16, ex16, hf⟩ := hf
    refine r_nm ex16 ?_
    refine r_putI (pc := 118) (ws' := [((q 0), ob 9 [.int (0 : Int32), .ref (q 1), .int x16, .ref (q 2), .ref (q 3), .ref (q 4), .ref (q 5), .ref (q 6), .ref (q 7), .ref (q 8), .ref (q 9), .ref (q 10), .ref (q 11), .ref (q 12), .ref (q 13), .ref (q 14), .int (M_lines (M_rd v)), .int (M_size (M_rd v)), .int (M_at (M_rd v)), .int (M_place (M_rd v)), .int (M_sort (M_rd v)), .int (M_value (M_rd v)), .int (M_fault (M_rd v)), .int (M_faultPlace (M_rd v)), .int (M_lastFault (M_lf v)), .int (M_lastPlace (M_lf v)), .ref (q 15), .ref (q 16), .ref (q 17), .ref (q 18), .int (M_hasImage (M_im v)), .int (M_spanNow (M_rn v)), .ref (q 19), .int (M_placeThen (M_rn v)), .int (M_alonePlace (M_al v)), .int (M_aloneSteps (M_al v)), .int (M_aloneOut (M_al v)), .ref (q 20), .ref (q 21), .ref (q 22), .ref (q 23), .int (M_shotAlarm (M_ex v)), .int (M_drawn (M_ex v))]), ((q 1), aI K 700 f4), ((q 2), aI K 20 (M_number (M_cd v))), ((q 3), aZ K 5 (M_isTold (M_rd v))), ((q 4), aI K 80 (M_codeSort (M_cd v))), ((q 5), aI K 80 (M_codeA (M_cd v))), ((q 6), aI K 80 (M_codeB (M_cd v))), ((q 7), aI K 80 (M_codeC (M_cd v))), ((q 8), aI K 80 (M_codeName (M_cd v))), ((q 9), aI K 80 (M_codePlace (M_cd v))), ((q 10), aI K 80 (M_codeTo (M_cd v))), ((q 11), aI K 280 (M_labelName (M_cd v))), ((q 12), aI K 280 (M_labelAt (M_cd v))), ((q 13), aI K 64 (M_data (M_cd v))), ((q 14), aZ K 32 (M_hasData (M_rd v))), ((q 15), aI K 314 (M_s (M_rn v))), ((q 16), aI K 314 (M_aside (M_ex v))), ((q 17), aI K 314 (M_further (M_ex v))), ((q 18), aI K 314 (M_image (M_im v))), ((q 19), aI K 3 (M_sizeNow (M_rn v))), ((q 20), aI K 8 (M_aloneRegister (M_al v))), ((q 21), aI K 4 (M_aloneReal (M_al v))), ((q 22), aI K 32 (M_aloneMemory (M_al v))), ((q 23), aI K 999 (M_aloneOutput (M_al v)))]) cx cf_X10 0 2 rfl (by decide) (Nat.le_of_ble_eq_true rfl) rfl pfd_I wd_1318 dX10_feed_118 rfl ?_
    refine r_aload_n (pc := 121) cx dX10_feed_121 0 rfl ?_
    refine r_get (pc := 122) cx cf_X10 0 2 rfl (by decide) rfl wd_1318 dX10_feed_122 ?_
    have hi := inj2 hf
    exact r_iret (pc := 125) cx hi.1 (by rw [← hi.2]; (try simp only [cl_M, M_tape_mk, M_taped_mk, M_tp_mk, M_lines_mk, M_size_mk, M_at_mk, M_place_mk, M_sort_mk, M_value_mk, M_fault_mk, M_faultPlace_mk, M_isTold_mk, M_hasData_mk, M_rd_mk, M_lastFault_mk, M_lastPlace_mk, M_lf_mk, M_number_mk, M_codeSort_mk, M_codeA_mk, M_codeB_mk, M_codeC_mk, M_codeName_mk, M_codePlace_mk, M_codeTo_mk, M_labelName_mk, M_labelAt_mk, M_data_mk, M_cd_mk, M_s_mk, M_spanNow_mk, M_sizeNow_mk, M_placeThen_mk, M_rn_mk, M_aside_mk, M_further_mk, M_shotAlarm_mk, M_drawn_mk, M_ex_mk, M_image_mk, M_hasImage_mk, M_im_mk, M_alonePlace_mk, M_aloneSteps_mk, M_aloneOut_mk, M_aloneRegister_mk, M_aloneReal_mk, M_aloneMemory_mk, M_aloneOutput_mk, M_al_mk, M_thrown_mk, List.cons_append, List.nil_append, List.append_nil]) <;> rfl) dX10_feed_125
  · replace hf := ifn h1 hf
    refine r_iconst (pc := 15) cx dX10_feed_15 ic_m1 ?_
    have hi := inj2 hf
    exact r_iret (pc := 16) cx hi.1 (by rw [← hi.2]; (try simp only [cl_M, M_tape_mk, M_taped_mk, M_tp_mk, M_lines_mk, M_size_mk, M_at_mk, M_place_mk, M_sort_mk, M_value_mk, M_fault_mk, M_faultPlace_mk, M_isTold_mk, M_hasData_mk, M_rd_mk, M_lastFault_mk, M_lastPlace_mk, M_lf_mk, M_number_mk, M_codeSort_mk, M_codeA_mk, M_codeB_mk, M_codeC_mk, M_codeName_mk, M_codePlace_mk, M_codeTo_mk, M_labelName_mk, M_labelAt_mk, M_data_mk, M_cd_mk, M_s_mk, M_spanNow_mk, M_sizeNow_mk, M_placeThen_mk, M_rn_mk, M_aside_mk, M_further_mk, M_shotAlarm_mk, M_drawn_mk, M_ex_mk, M_image_mk, M_hasImage_mk, M_im_mk, M_alonePlace_mk, M_aloneSteps_mk, M_aloneOut_mk, M_aloneRegister_mk, M_aloneReal_mk, M_aloneMemory_mk, M_aloneOutput_mk, M_al_mk, M_thrown_mk, List.cons_append, List.nil_append, List.append_nil]) <;> rfl) dX10_feed_16
theorem yv_X10_feed : YV yX10_feed cX10_feed 8 (some .int) 5 := ⟨⟨by decide +kernel, by decide +kernel, by decide +kernel⟩, wd_1454, wd_102, wd_1452, wd_1453⟩
def f_M_here (v : T_M) : Option (Int32) :=
  (if (M_size (M_rd v)) ≤ (M_at (M_rd v)) then (some (-1 : Int32)) else (if ix (M_at (M_rd v)) 700 then (some ((M_tape (M_tp v)) ((M_at (M_rd v))).toNatClampNeg)) else none))
abbrev rm_M_here : Room := { frames := 0, cells := 0, slots := 0, locals := 0 }
set_option maxRecDepth 100000 in
set_option maxHeartbeats 4000000 in
theorem m_M_here (l : Launch) (D : va_G) (K : Nat → ClassId) (q : Nat → Nat) (v : T_M) {r_ : Int32} (hf : f_M_here v = some r_) : MI l yX10_here cX10_here 1 (some .int) rm_M_here D K [.ref (q 0)] (cl_M K q v) r_ (cl_M K q v) := by
  refine MI_of (loc0 := [(0, .ref (q 0))]) (by decide +kernel) rfl (Nat.le_of_ble_eq_true rfl) ?_
  intro p e s m args below meth c A cx
  unfold f_M_here at hf
  refine r_ws (ws' := [((q 0), ob 9 [.int (M_thrown v), .ref (q 1), .int (M_taped (M_tp v)), .ref (q 2), .ref (q 3), .ref (q 4), .ref (q 5), .ref (q 6), .ref (q 7), .ref (q 8), .ref (q 9), .ref (q 10), .ref (q 11), .ref (q 12), .ref (q 13), .ref (q 14), .int (M_lines (M_rd v)), .int (M_size (M_rd v)), .int (M_at (M_rd v)), .int (M_place (M_rd v)), .int (M_sort (M_rd v)), .int (M_value (M_rd v)), .int (M_fault (M_rd v)), .int (M_faultPlace (M_rd v)), .int (M_lastFault (M_lf v)), .int (M_lastPlace (M_lf v)), .ref (q 15), .ref (q 16), .ref (q 17), .ref (q 18), .int (M_hasImage (M_im v)), .int (M_spanNow (M_rn v)), .ref (q 19), .int (M_placeThen (M_rn v)), .int (M_alonePlace (M_al v)), .int (M_aloneSteps (M_al v)), .int (M_aloneOut (M_al v)), .ref (q 20), .ref (q 21), .ref (q 22), .ref (q 23), .int (M_shotAlarm (M_ex v)), .int (M_drawn (M_ex v))]), ((q 1), aI K 700 (M_tape (M_tp v))), ((q 2), aI K 20 (M_number (M_cd v))), ((q 3), aZ K 5 (M_isTold (M_rd v))), ((q 4), aI K 80 (M_codeSort (M_cd v))), ((q 5), aI K 80 (M_codeA (M_cd v))), ((q 6), aI K 80 (M_codeB (M_cd v))), ((q 7), aI K 80 (M_codeC (M_cd v))), ((q 8), aI K 80 (M_codeName (M_cd v))), ((q 9), aI K 80 (M_codePlace (M_cd v))), ((q 10), aI K 80 (M_codeTo (M_cd v))), ((q 11), aI K 280 (M_labelName (M_cd v))), ((q 12), aI K 280 (M_labelAt (M_cd v))), ((q 13), aI K 64 (M_data (M_cd v))), ((q 14), aZ K 32 (M_hasData (M_rd v))), ((q 15), aI K 314 (M_s (M_rn v))), ((q 16), aI K 314 (M_aside (M_ex v))), ((q 17), aI K 314 (M_further (M_ex v))), ((q 18), aI K 314 (M_image (M_im v))), ((q 19), aI K 3 (M_sizeNow (M_rn v))), ((q 20), aI K 8 (M_aloneRegister (M_al v))), ((q 21), aI K 4 (M_aloneReal (M_al v))), ((q 22), aI K 32 (M_aloneMemory (M_al v))), ((q 23), aI K 999 (M_aloneOutput (M_al v)))]) rfl ?_
  refine r_aload_n (pc := 0) cx dX10_here_0 0 rfl ?_
  refine r_get (pc := 1) cx cf_X10 0 18 rfl (by decide) rfl wd_1334 dX10_here_1 ?_
  refine r_aload_n (pc := 4) cx dX10_here_4 0 rfl ?_
  refine r_get (pc := 5) cx cf_X10 0 17 rfl (by decide) rfl wd_1333 dX10_here_5 ?_
  refine r_icmp_ge (pc := 8) (tgt := 23) cx dX10_here_8 (by decide) (fun h1 => ?_) (fun h1 => ?_)
  · replace hf := ifp h1 hf
    refine r_iconst (pc := 23) cx dX10_here_23 ic_m1 ?_
    have hi := inj1 hf
    exact r_iret (pc := 24) cx hi rfl dX10_here_24
  · replace hf := ifn h1 hf
    refine r_aload_n (pc := 11) cx dX10_here_11 0 rfl ?_
    refine r_get (pc := 12) cx cf_X10 0 1 rfl (by decide) rfl wd_1317 dX10_here_12 ?_
    refine r_aload_n (pc := 15) cx dX10_here_15 0 rfl ?_
    refine r_get (pc := 16) cx cf_X10 0 18 rfl (by decide) rfl wd_1334 dX10_here_16 ?_
    replace hf := chk_of hf
    obtain ⟨h2, hf⟩ := hf
    refine r_iald (pc := 19) cx 1 rfl h2 dX10_here_19 ?_
    refine r_goto (pc := 20) (tgt := 24) cx dX10_here_20 (by decide) ?_
    have hi := inj1 hf
    exact r_iret (pc := 24) cx hi rfl dX10_here_24
theorem yv_X10_here : YV yX10_here cX10_here 1 (some .int) 0 := ⟨⟨by decide +kernel, by decide +kernel, by decide +kernel⟩, wd_1470, wd_102, wd_1469, wd_33⟩
def f_M_isSmall (a0 : Int32) : Option (Int32) :=
  (if a0 < (97 : Int32) then (some (0 : Int32)) else (if (122 : Int32) < a0 then (some (0 : Int32)) else (some (1 : Int32))))
abbrev rm_M_isSmall : Room := { frames := 0, cells := 0, slots := 0, locals := 0 }
set_option maxRecDepth 100000 in
set_option maxHeartbeats 4000000 in
theorem m_M_isSmall (l : Launch) (D : va_G) (K : Nat → ClassId) (a0 : Int32) {r_ : Int32} (hf : f_M_isSmall a0 = some r_) : MI l yX10_isSmall cX10_isSmall 1 (some .boolean) rm_M_isSmall D K [.int a0] ([]) r_ ([]) := by
  refine MI_of (loc0 := [(0, .int a0)]) (by decide +kernel) rfl (Nat.le_of_ble_eq_true rfl) ?_
  intro p e s m args below meth c A cx
  unfold f_M_isSmall at hf
  refine r_ws (ws' := []) rfl ?_
  refine r_iload_n (pc := 0) cx dX10_isSmall_0 0 rfl ?_
  refine r_bipush (pc := 1) cx dX10_isSmall_1 bp_97 ?_
  refine r_icmp_lt (pc := 3) (tgt := 16) cx dX10_isSmall_3 (by decide) (fun h1 => ?_) (fun h1 => ?_)
  · replace hf := ifp h1 hf
    refine r_iconst (pc := 16) cx dX10_isSmall_16 ic_0 ?_
    have hi := inj1 hf
    exact r_zret (pc := 17) cx (Or.inl rfl) hi rfl dX10_isSmall_17
  · replace hf := ifn h1 hf
    refine r_iload_n (pc := 6) cx dX10_isSmall_6 0 rfl ?_
    refine r_bipush (pc := 7) cx dX10_isSmall_7 bp_122 ?_
    refine r_icmp_gt (pc := 9) (tgt := 16) cx dX10_isSmall_9 (by decide) (fun h2 => ?_) (fun h2 => ?_)
    · replace hf := ifp h2 hf
      refine r_iconst (pc := 16) cx dX10_isSmall_16 ic_0 ?_
      have hi := inj1 hf
      exact r_zret (pc := 17) cx (Or.inl rfl) hi rfl dX10_isSmall_17
    · replace hf := ifn h2 hf
      refine r_iconst (pc := 12) cx dX10_isSmall_12 ic_1 ?_
      refine r_goto (pc := 13) (tgt := 17) cx dX10_isSmall_13 (by decide) ?_
      have hi := inj1 hf
      exact r_zret (pc := 17) cx (Or.inr rfl) hi rfl dX10_isSmall_17
theorem ys_X10_isSmall : YS yX10_isSmall cX10_isSmall 1 (some .boolean) 1 := ⟨⟨by decide +kernel, by decide +kernel, by decide +kernel⟩, wd_1473, wd_102, wd_1472⟩
def f_M_isDigit (a0 : Int32) : Option (Int32) :=
  (if a0 < (48 : Int32) then (some (0 : Int32)) else (if (57 : Int32) < a0 then (some (0 : Int32)) else (some (1 : Int32))))
abbrev rm_M_isDigit : Room := { frames := 0, cells := 0, slots := 0, locals := 0 }
set_option maxRecDepth 100000 in
set_option maxHeartbeats 4000000 in
theorem m_M_isDigit (l : Launch) (D : va_G) (K : Nat → ClassId) (a0 : Int32) {r_ : Int32} (hf : f_M_isDigit a0 = some r_) : MI l yX10_isDigit cX10_isDigit 1 (some .boolean) rm_M_isDigit D K [.int a0] ([]) r_ ([]) := by
  refine MI_of (loc0 := [(0, .int a0)]) (by decide +kernel) rfl (Nat.le_of_ble_eq_true rfl) ?_
  intro p e s m args below meth c A cx
  unfold f_M_isDigit at hf
  refine r_ws (ws' := []) rfl ?_
  refine r_iload_n (pc := 0) cx dX10_isDigit_0 0 rfl ?_
  refine r_bipush (pc := 1) cx dX10_isDigit_1 bp_48 ?_
  refine r_icmp_lt (pc := 3) (tgt := 16) cx dX10_isDigit_3 (by decide) (fun h1 => ?_) (fun h1 => ?_)
  · replace hf := ifp h1 hf
    refine r_iconst (pc := 16) cx dX10_isDigit_16 ic_0 ?_
    have hi := inj1 hf
    exact r_zret (pc := 17) cx (Or.inl rfl) hi rfl dX10_isDigit_17
  · replace hf := ifn h1 hf
    refine r_iload_n (pc := 6) cx dX10_isDigit_6 0 rfl ?_
    refine r_bipush (pc := 7) cx dX10_isDigit_7 bp_57 ?_
    refine r_icmp_gt (pc := 9) (tgt := 16) cx dX10_isDigit_9 (by decide) (fun h2 => ?_) (fun h2 => ?_)
    · replace hf := ifp h2 hf
      refine r_iconst (pc := 16) cx dX10_isDigit_16 ic_0 ?_
      have hi := inj1 hf
      exact r_zret (pc := 17) cx (Or.inl rfl) hi rfl dX10_isDigit_17
    · replace hf := ifn h2 hf
      refine r_iconst (pc := 12) cx dX10_isDigit_12 ic_1 ?_
      refine r_goto (pc := 13) (tgt := 17) cx dX10_isDigit_13 (by decide) ?_
      have hi := inj1 hf
      exact r_zret (pc := 17) cx (Or.inr rfl) hi rfl dX10_isDigit_17
theorem ys_X10_isDigit : YS yX10_isDigit cX10_isDigit 1 (some .boolean) 1 := ⟨⟨by decide +kernel, by decide +kernel, by decide +kernel⟩, wd_1487, wd_102, wd_1486⟩
def f_M_nameHere_L7 (v : T_M) (k7_63 : Int32 → Option (T_M)) : Nat → Int32 → Int32 → Option (T_M)
  | 0, _, _ => none
  | n7 + 1, x1, x2 =>
    (if (6 : Int32) ≤ x1 then (k7_63 x2) else (if (M_at (M_rd v)) ≤ ((M_place (M_rd v)) + x1) then (nm ((x2 <<< ((5 : Int32) &&& 31)) ||| (0 : Int32)) fun (x6 : Int32) => (nm (x1 + (1 : Int32)) fun (x7 : Int32) => (f_M_nameHere_L7 v k7_63 n7 x7 x6))) else (if ix ((M_place (M_rd v)) + x1) 700 then (nm ((x2 <<< ((5 : Int32) &&& 31)) ||| ((((M_tape (M_tp v)) (((M_place (M_rd v)) + x1)).toNatClampNeg) - (97 : Int32)) + (1 : Int32))) fun (x9 : Int32) => (nm (x1 + (1 : Int32)) fun (x10 : Int32) => (f_M_nameHere_L7 v k7_63 n7 x10 x9))) else none)))
def f_M_nameHere (v : T_M) : Option (T_M) :=
  (f_M_nameHere_L7 v (fun (x3 : Int32) => (some ((M_tp v), ((M_lines (M_rd v)), (M_size (M_rd v)), (M_at (M_rd v)), (M_place (M_rd v)), (M_sort (M_rd v)), x3, (M_fault (M_rd v)), (M_faultPlace (M_rd v)), (M_isTold (M_rd v)), (M_hasData (M_rd v))), (M_lf v), (M_cd v), (M_rn v), (M_ex v), (M_im v), (M_al v), (M_thrown v)))) LF (0 : Int32) (0 : Int32))
abbrev rm_M_nameHere : Room := { frames := 0, cells := 0, slots := 0, locals := 0 }
set_option maxRecDepth 100000 in
set_option maxHeartbeats 4000000 in
theorem m_M_nameHere (l : Launch) (D : va_G) (K : Nat → ClassId) (q : Nat → Nat) (v : T_M) {o_v : T_M} (hf : f_M_nameHere v = some o_v) : MV l yX10_nameHere cX10_nameHere 2 (none) rm_M_nameHere D K [.ref (q 0)] (cl_M K q v) (cl_M K q o_v) := by
  refine MV_of (loc0 := [(0, .ref (q 0))]) (by decide +kernel) rfl (Nat.le_of_ble_eq_true rfl) ?_
  intro p e s m args below meth c A cx
  unfold f_M_nameHere at hf
  refine r_ws (ws' := [((q 0), ob 9 [.int (M_thrown v), .ref (q 1), .int (M_taped (M_tp v)), .ref (q 2), .ref (q 3), .ref (q 4), .ref (q 5), .ref (q 6), .ref (q 7), .ref (q 8), .ref (q 9), .ref (q 10), .ref (q 11), .ref (q 12), .ref (q 13), .ref (q 14), .int (M_lines (M_rd v)), .int (M_size (M_rd v)), .int (M_at (M_rd v)), .int (M_place (M_rd v)), .int (M_sort (M_rd v)), .int (M_value (M_rd v)), .int (M_fault (M_rd v)), .int (M_faultPlace (M_rd v)), .int (M_lastFault (M_lf v)), .int (M_lastPlace (M_lf v)), .ref (q 15), .ref (q 16), .ref (q 17), .ref (q 18), .int (M_hasImage (M_im v)), .int (M_spanNow (M_rn v)), .ref (q 19), .int (M_placeThen (M_rn v)), .int (M_alonePlace (M_al v)), .int (M_aloneSteps (M_al v)), .int (M_aloneOut (M_al v)), .ref (q 20), .ref (q 21), .ref (q 22), .ref (q 23), .int (M_shotAlarm (M_ex v)), .int (M_drawn (M_ex v))]), ((q 1), aI K 700 (M_tape (M_tp v))), ((q 2), aI K 20 (M_number (M_cd v))), ((q 3), aZ K 5 (M_isTold (M_rd v))), ((q 4), aI K 80 (M_codeSort (M_cd v))), ((q 5), aI K 80 (M_codeA (M_cd v))), ((q 6), aI K 80 (M_codeB (M_cd v))), ((q 7), aI K 80 (M_codeC (M_cd v))), ((q 8), aI K 80 (M_codeName (M_cd v))), ((q 9), aI K 80 (M_codePlace (M_cd v))), ((q 10), aI K 80 (M_codeTo (M_cd v))), ((q 11), aI K 280 (M_labelName (M_cd v))), ((q 12), aI K 280 (M_labelAt (M_cd v))), ((q 13), aI K 64 (M_data (M_cd v))), ((q 14), aZ K 32 (M_hasData (M_rd v))), ((q 15), aI K 314 (M_s (M_rn v))), ((q 16), aI K 314 (M_aside (M_ex v))), ((q 17), aI K 314 (M_further (M_ex v))), ((q 18), aI K 314 (M_image (M_im v))), ((q 19), aI K 3 (M_sizeNow (M_rn v))), ((q 20), aI K 8 (M_aloneRegister (M_al v))), ((q 21), aI K 4 (M_aloneReal (M_al v))), ((q 22), aI K 32 (M_aloneMemory (M_al v))), ((q 23), aI K 999 (M_aloneOutput (M_al v)))]) rfl ?_
  refine r_aload_n (pc := 0) cx dX10_nameHere_0 0 rfl ?_
  refine r_iconst (pc := 1) cx dX10_nameHere_1 ic_0 ?_
  refine r_putI (pc := 2) (ws' := [((q 0), ob 9 [.int (M_thrown v), .ref (q 1), .int (M_taped (M_tp v)), .ref (q 2), .ref (q 3), .ref (q 4), .ref (q 5), .ref (q 6), .ref (q 7), .ref (q 8), .ref (q 9), .ref (q 10), .ref (q 11), .ref (q 12), .ref (q 13), .ref (q 14), .int (M_lines (M_rd v)), .int (M_size (M_rd v)), .int (M_at (M_rd v)), .int (M_place (M_rd v)), .int (M_sort (M_rd v)), .int (0 : Int32), .int (M_fault (M_rd v)), .int (M_faultPlace (M_rd v)), .int (M_lastFault (M_lf v)), .int (M_lastPlace (M_lf v)), .ref (q 15), .ref (q 16), .ref (q 17), .ref (q 18), .int (M_hasImage (M_im v)), .int (M_spanNow (M_rn v)), .ref (q 19), .int (M_placeThen (M_rn v)), .int (M_alonePlace (M_al v)), .int (M_aloneSteps (M_al v)), .int (M_aloneOut (M_al v)), .ref (q 20), .ref (q 21), .ref (q 22), .ref (q 23), .int (M_shotAlarm (M_ex v)), .int (M_drawn (M_ex v))]), ((q 1), aI K 700 (M_tape (M_tp v))), ((q 2), aI K 20 (M_number (M_cd v))), ((q 3), aZ K 5 (M_isTold (M_rd v))), ((q 4), aI K 80 (M_codeSort (M_cd v))), ((q 5), aI K 80 (M_codeA (M_cd v))), ((q 6), aI K 80 (M_codeB (M_cd v))), ((q 7), aI K 80 (M_codeC (M_cd v))), ((q 8), aI K 80 (M_codeName (M_cd v))), ((q 9), aI K 80 (M_codePlace (M_cd v))), ((q 10), aI K 80 (M_codeTo (M_cd v))), ((q 11), aI K 280 (M_labelName (M_cd v))), ((q 12), aI K 280 (M_labelAt (M_cd v))), ((q 13), aI K 64 (M_data (M_cd v))), ((q 14), aZ K 32 (M_hasData (M_rd v))), ((q 15), aI K 314 (M_s (M_rn v))), ((q 16), aI K 314 (M_aside (M_ex v))), ((q 17), aI K 314 (M_further (M_ex v))), ((q 18), aI K 314 (M_image (M_im v))), ((q 19), aI K 3 (M_sizeNow (M_rn v))), ((q 20), aI K 8 (M_aloneRegister (M_al v))), ((q 21), aI K 4 (M_aloneReal (M_al v))), ((q 22), aI K 32 (M_aloneMemory (M_al v))), ((q 23), aI K 999 (M_aloneOutput (M_al v)))]) cx cf_X10 0 21 rfl (by decide) (Nat.le_of_ble_eq_true rfl) rfl pfd_I wd_1337 dX10_nameHere_2 rfl ?_
  refine r_iconst (pc := 5) cx dX10_nameHere_5 ic_0 ?_
  refine r_istore_n (pc := 6) (loc' := [(1, .int (0 : Int32)), (0, .ref (q 0))]) cx dX10_nameHere_6 rfl (by decide) rfl ?_
  have hL7 : ∀ (k7_63 : Int32 → Option (T_M)), (∀ (x3 : Int32), k7_63 x3 = some o_v → WW p l e rm_M_nameHere s m args below meth c D A 2 0 0 (MQ below (QV D K A (cl_M K q o_v)) args s 0 0 A) ([((q 0), ob 9 [.int (M_thrown v), .ref (q 1), .int (M_taped (M_tp v)), .ref (q 2), .ref (q 3), .ref (q 4), .ref (q 5), .ref (q 6), .ref (q 7), .ref (q 8), .ref (q 9), .ref (q 10), .ref (q 11), .ref (q 12), .ref (q 13), .ref (q 14), .int (M_lines (M_rd v)), .int (M_size (M_rd v)), .int (M_at (M_rd v)), .int (M_place (M_rd v)), .int (M_sort (M_rd v)), .int x3, .int (M_fault (M_rd v)), .int (M_faultPlace (M_rd v)), .int (M_lastFault (M_lf v)), .int (M_lastPlace (M_lf v)), .ref (q 15), .ref (q 16), .ref (q 17), .ref (q 18), .int (M_hasImage (M_im v)), .int (M_spanNow (M_rn v)), .ref (q 19), .int (M_placeThen (M_rn v)), .int (M_alonePlace (M_al v)), .int (M_aloneSteps (M_al v)), .int (M_aloneOut (M_al v)), .ref (q 20), .ref (q 21), .ref (q 22), .ref (q 23), .int (M_shotAlarm (M_ex v)), .int (M_drawn (M_ex v))]), ((q 1), aI K 700 (M_tape (M_tp v))), ((q 2), aI K 20 (M_number (M_cd v))), ((q 3), aZ K 5 (M_isTold (M_rd v))), ((q 4), aI K 80 (M_codeSort (M_cd v))), ((q 5), aI K 80 (M_codeA (M_cd v))), ((q 6), aI K 80 (M_codeB (M_cd v))), ((q 7), aI K 80 (M_codeC (M_cd v))), ((q 8), aI K 80 (M_codeName (M_cd v))), ((q 9), aI K 80 (M_codePlace (M_cd v))), ((q 10), aI K 80 (M_codeTo (M_cd v))), ((q 11), aI K 280 (M_labelName (M_cd v))), ((q 12), aI K 280 (M_labelAt (M_cd v))), ((q 13), aI K 64 (M_data (M_cd v))), ((q 14), aZ K 32 (M_hasData (M_rd v))), ((q 15), aI K 314 (M_s (M_rn v))), ((q 16), aI K 314 (M_aside (M_ex v))), ((q 17), aI K 314 (M_further (M_ex v))), ((q 18), aI K 314 (M_image (M_im v))), ((q 19), aI K 3 (M_sizeNow (M_rn v))), ((q 20), aI K 8 (M_aloneRegister (M_al v))), ((q 21), aI K 4 (M_aloneReal (M_al v))), ((q 22), aI K 32 (M_aloneMemory (M_al v))), ((q 23), aI K 999 (M_aloneOutput (M_al v)))]) ([]) ([]) 63) → ∀ (n7 : Nat) (x1 : Int32) (x2 : Int32), f_M_nameHere_L7 v k7_63 n7 x1 x2 = some o_v → WW p l e rm_M_nameHere s m args below meth c D A 2 0 0 (MQ below (QV D K A (cl_M K q o_v)) args s 0 0 A) ([((q 0), ob 9 [.int (M_thrown v), .ref (q 1), .int (M_taped (M_tp v)), .ref (q 2), .ref (q 3), .ref (q 4), .ref (q 5), .ref (q 6), .ref (q 7), .ref (q 8), .ref (q 9), .ref (q 10), .ref (q 11), .ref (q 12), .ref (q 13), .ref (q 14), .int (M_lines (M_rd v)), .int (M_size (M_rd v)), .int (M_at (M_rd v)), .int (M_place (M_rd v)), .int (M_sort (M_rd v)), .int x2, .int (M_fault (M_rd v)), .int (M_faultPlace (M_rd v)), .int (M_lastFault (M_lf v)), .int (M_lastPlace (M_lf v)), .ref (q 15), .ref (q 16), .ref (q 17), .ref (q 18), .int (M_hasImage (M_im v)), .int (M_spanNow (M_rn v)), .ref (q 19), .int (M_placeThen (M_rn v)), .int (M_alonePlace (M_al v)), .int (M_aloneSteps (M_al v)), .int (M_aloneOut (M_al v)), .ref (q 20), .ref (q 21), .ref (q 22), .ref (q 23), .int (M_shotAlarm (M_ex v)), .int (M_drawn (M_ex v))]), ((q 1), aI K 700 (M_tape (M_tp v))), ((q 2), aI K 20 (M_number (M_cd v))), ((q 3), aZ K 5 (M_isTold (M_rd v))), ((q 4), aI K 80 (M_codeSort (M_cd v))), ((q 5), aI K 80 (M_codeA (M_cd v))), ((q 6), aI K 80 (M_codeB (M_cd v))), ((q 7), aI K 80 (M_codeC (M_cd v))), ((q 8), aI K 80 (M_codeName (M_cd v))), ((q 9), aI K 80 (M_codePlace (M_cd v))), ((q 10), aI K 80 (M_codeTo (M_cd v))), ((q 11), aI K 280 (M_labelName (M_cd v))), ((q 12), aI K 280 (M_labelAt (M_cd v))), ((q 13), aI K 64 (M_data (M_cd v))), ((q 14), aZ K 32 (M_hasData (M_rd v))), ((q 15), aI K 314 (M_s (M_rn v))), ((q 16), aI K 314 (M_aside (M_ex v))), ((q 17), aI K 314 (M_further (M_ex v))), ((q 18), aI K 314 (M_image (M_im v))), ((q 19), aI K 3 (M_sizeNow (M_rn v))), ((q 20), aI K 8 (M_aloneRegister (M_al v))), ((q 21), aI K 4 (M_aloneReal (M_al v))), ((q 22), aI K 32 (M_aloneMemory (M_al v))), ((q 23), aI K 999 (M_aloneOutput (M_al v)))]) ([(0, .ref (q 0)), (1, .int x1)]) ([]) 7 := by
    clear hf
    intro k7_63 hk7_63 n7
    induction n7 with
    | zero => intro x1 x2 hf; exact (nomatch (show (none : Option (T_M)) = some _ from hf))
    | succ n7 ih7 =>
      intro x1 x2 hf
      rw [f_M_nameHere_L7] at hf
      refine r_iload_n (pc := 7) cx dX10_nameHere_7 1 rfl ?_
      refine r_bipush (pc := 8) cx dX10_nameHere_8 bp_6 ?_
      refine r_icmp_ge (pc := 10) (tgt := 63) cx dX10_nameHere_10 (by decide) (fun h4 => ?_) (fun h4 => ?_)
      · replace hf := ifp h4 hf
        refine r_loc (loc' := []) [] rfl ?_
        exact hk7_63 _ hf
      · replace hf := ifn h4 hf
        refine r_aload_n (pc := 13) cx dX10_nameHere_13 0 rfl ?_
        refine r_aload_n (pc := 14) cx dX10_nameHere_14 0 rfl ?_
        refine r_get (pc := 15) cx cf_X10 0 21 rfl (by decide) rfl wd_1337 dX10_nameHere_15 ?_
        refine r_iconst (pc := 18) cx dX10_nameHere_18 ic_5 ?_
        refine r_ishl (pc := 19) cx dX10_nameHere_19 ?_
        refine r_aload_n (pc := 20) cx dX10_nameHere_20 0 rfl ?_
        refine r_get (pc := 21) cx cf_X10 0 19 rfl (by decide) rfl wd_1335 dX10_nameHere_21 ?_
        refine r_iload_n (pc := 24) cx dX10_nameHere_24 1 rfl ?_
        refine r_iadd (pc := 25) cx dX10_nameHere_25 ?_
        refine r_aload_n (pc := 26) cx dX10_nameHere_26 0 rfl ?_
        refine r_get (pc := 27) cx cf_X10 0 18 rfl (by decide) rfl wd_1334 dX10_nameHere_27 ?_
        refine r_icmp_ge (pc := 30) (tgt := 52) cx dX10_nameHere_30 (by decide) (fun h5 => ?_) (fun h5 => ?_)
        · replace hf := ifp h5 hf
          refine r_iconst (pc := 52) cx dX10_nameHere_52 ic_0 ?_
          refine r_ior (pc := 53) cx dX10_nameHere_53 ?_
          replace hf := nm_of hf
          obtain ⟨x6, ex6, hf⟩ := hf
          refine r_nm ex6 ?_
          refine r_putI (pc := 54) (ws' := [((q 0), ob 9 [.int (M_thrown v), .ref (q 1), .int (M_taped (M_tp v)), .ref (q 2), .ref (q 3), .ref (q 4), .ref (q 5), .ref (q 6), .ref (q 7), .ref (q 8), .ref (q 9), .ref (q 10), .ref (q 11), .ref (q 12), .ref (q 13), .ref (q 14), .int (M_lines (M_rd v)), .int (M_size (M_rd v)), .int (M_at (M_rd v)), .int (M_place (M_rd v)), .int (M_sort (M_rd v)), .int x6, .int (M_fault (M_rd v)), .int (M_faultPlace (M_rd v)), .int (M_lastFault (M_lf v)), .int (M_lastPlace (M_lf v)), .ref (q 15), .ref (q 16), .ref (q 17), .ref (q 18), .int (M_hasImage (M_im v)), .int (M_spanNow (M_rn v)), .ref (q 19), .int (M_placeThen (M_rn v)), .int (M_alonePlace (M_al v)), .int (M_aloneSteps (M_al v)), .int (M_aloneOut (M_al v)), .ref (q 20), .ref (q 21), .ref (q 22), .ref (q 23), .int (M_shotAlarm (M_ex v)), .int (M_drawn (M_ex v))]), ((q 1), aI K 700 (M_tape (M_tp v))), ((q 2), aI K 20 (M_number (M_cd v))), ((q 3), aZ K 5 (M_isTold (M_rd v))), ((q 4), aI K 80 (M_codeSort (M_cd v))), ((q 5), aI K 80 (M_codeA (M_cd v))), ((q 6), aI K 80 (M_codeB (M_cd v))), ((q 7), aI K 80 (M_codeC (M_cd v))), ((q 8), aI K 80 (M_codeName (M_cd v))), ((q 9), aI K 80 (M_codePlace (M_cd v))), ((q 10), aI K 80 (M_codeTo (M_cd v))), ((q 11), aI K 280 (M_labelName (M_cd v))), ((q 12), aI K 280 (M_labelAt (M_cd v))), ((q 13), aI K 64 (M_data (M_cd v))), ((q 14), aZ K 32 (M_hasData (M_rd v))), ((q 15), aI K 314 (M_s (M_rn v))), ((q 16), aI K 314 (M_aside (M_ex v))), ((q 17), aI K 314 (M_further (M_ex v))), ((q 18), aI K 314 (M_image (M_im v))), ((q 19), aI K 3 (M_sizeNow (M_rn v))), ((q 20), aI K 8 (M_aloneRegister (M_al v))), ((q 21), aI K 4 (M_aloneReal (M_al v))), ((q 22), aI K 32 (M_aloneMemory (M_al v))), ((q 23), aI K 999 (M_aloneOutput (M_al v)))]) cx cf_X10 0 21 rfl (by decide) (Nat.le_of_ble_eq_true rfl) rfl pfd_I wd_1337 dX10_nameHere_54 rfl ?_
          replace hf := nm_of hf
          obtain ⟨x7, ex7, hf⟩ := hf
          refine r_iinc (pc := 57) (loc' := [(1, .int x7), (0, .ref (q 0))]) (v := x7) cx dX10_nameHere_57 1 rfl ((congrArg (fun z => x1 + z) ic_1).trans ex7.symm) (by decide) rfl ?_
          refine r_goto (pc := 60) (tgt := 7) cx dX10_nameHere_60 (by decide) ?_
          refine r_loc (loc' := [(0, .ref (q 0)), (1, .int x7)]) [1, 0] rfl ?_
          exact ih7 _ _ hf
        · replace hf := ifn h5 hf
          refine r_aload_n (pc := 33) cx dX10_nameHere_33 0 rfl ?_
          refine r_get (pc := 34) cx cf_X10 0 1 rfl (by decide) rfl wd_1317 dX10_nameHere_34 ?_
          refine r_aload_n (pc := 37) cx dX10_nameHere_37 0 rfl ?_
          refine r_get (pc := 38) cx cf_X10 0 19 rfl (by decide) rfl wd_1335 dX10_nameHere_38 ?_
          refine r_iload_n (pc := 41) cx dX10_nameHere_41 1 rfl ?_
          refine r_iadd (pc := 42) cx dX10_nameHere_42 ?_
          replace hf := chk_of hf
          obtain ⟨h8, hf⟩ := hf
          refine r_iald (pc := 43) cx 1 rfl h8 dX10_nameHere_43 ?_
          refine r_bipush (pc := 44) cx dX10_nameHere_44 bp_97 ?_
          refine r_isub (pc := 46) cx dX10_nameHere_46 ?_
          refine r_iconst (pc := 47) cx dX10_nameHere_47 ic_1 ?_
          refine r_iadd (pc := 48) cx dX10_nameHere_48 ?_
          refine r_goto (pc := 49) (tgt := 53) cx dX10_nameHere_49 (by decide) ?_
          refine r_ior (pc := 53) cx dX10_nameHere_53 ?_
          replace hf := nm_of hf
          obtain ⟨x9, ex9, hf⟩ := hf
          refine r_nm ex9 ?_
          refine r_putI (pc := 54) (ws' := [((q 0), ob 9 [.int (M_thrown v), .ref (q 1), .int (M_taped (M_tp v)), .ref (q 2), .ref (q 3), .ref (q 4), .ref (q 5), .ref (q 6), .ref (q 7), .ref (q 8), .ref (q 9), .ref (q 10), .ref (q 11), .ref (q 12), .ref (q 13), .ref (q 14), .int (M_lines (M_rd v)), .int (M_size (M_rd v)), .int (M_at (M_rd v)), .int (M_place (M_rd v)), .int (M_sort (M_rd v)), .int x9, .int (M_fault (M_rd v)), .int (M_faultPlace (M_rd v)), .int (M_lastFault (M_lf v)), .int (M_lastPlace (M_lf v)), .ref (q 15), .ref (q 16), .ref (q 17), .ref (q 18), .int (M_hasImage (M_im v)), .int (M_spanNow (M_rn v)), .ref (q 19), .int (M_placeThen (M_rn v)), .int (M_alonePlace (M_al v)), .int (M_aloneSteps (M_al v)), .int (M_aloneOut (M_al v)), .ref (q 20), .ref (q 21), .ref (q 22), .ref (q 23), .int (M_shotAlarm (M_ex v)), .int (M_drawn (M_ex v))]), ((q 1), aI K 700 (M_tape (M_tp v))), ((q 2), aI K 20 (M_number (M_cd v))), ((q 3), aZ K 5 (M_isTold (M_rd v))), ((q 4), aI K 80 (M_codeSort (M_cd v))), ((q 5), aI K 80 (M_codeA (M_cd v))), ((q 6), aI K 80 (M_codeB (M_cd v))), ((q 7), aI K 80 (M_codeC (M_cd v))), ((q 8), aI K 80 (M_codeName (M_cd v))), ((q 9), aI K 80 (M_codePlace (M_cd v))), ((q 10), aI K 80 (M_codeTo (M_cd v))), ((q 11), aI K 280 (M_labelName (M_cd v))), ((q 12), aI K 280 (M_labelAt (M_cd v))), ((q 13), aI K 64 (M_data (M_cd v))), ((q 14), aZ K 32 (M_hasData (M_rd v))), ((q 15), aI K 314 (M_s (M_rn v))), ((q 16), aI K 314 (M_aside (M_ex v))), ((q 17), aI K 314 (M_further (M_ex v))), ((q 18), aI K 314 (M_image (M_im v))), ((q 19), aI K 3 (M_sizeNow (M_rn v))), ((q 20), aI K 8 (M_aloneRegister (M_al v))), ((q 21), aI K 4 (M_aloneReal (M_al v))), ((q 22), aI K 32 (M_aloneMemory (M_al v))), ((q 23), aI K 999 (M_aloneOutput (M_al v)))]) cx cf_X10 0 21 rfl (by decide) (Nat.le_of_ble_eq_true rfl) rfl pfd_I wd_1337 dX10_nameHere_54 rfl ?_
          replace hf := nm_of hf
          obtain ⟨x10, ex10, hf⟩ := hf
          refine r_iinc (pc := 57) (loc' := [(1, .int x10), (0, .ref (q 0))]) (v := x10) cx dX10_nameHere_57 1 rfl ((congrArg (fun z => x1 + z) ic_1).trans ex10.symm) (by decide) rfl ?_
          refine r_goto (pc := 60) (tgt := 7) cx dX10_nameHere_60 (by decide) ?_
          refine r_loc (loc' := [(0, .ref (q 0)), (1, .int x10)]) [1, 0] rfl ?_
          exact ih7 _ _ hf
  refine r_loc (loc' := [(0, .ref (q 0)), (1, .int (0 : Int32))]) [1, 0] rfl ?_
  refine hL7 _ (fun x3 hf => ?_) _ _ _ hf
  have hi := inj1 hf
  exact r_vret (pc := 63) cx (by rw [← hi]; (try simp only [cl_M, M_tape_mk, M_taped_mk, M_tp_mk, M_lines_mk, M_size_mk, M_at_mk, M_place_mk, M_sort_mk, M_value_mk, M_fault_mk, M_faultPlace_mk, M_isTold_mk, M_hasData_mk, M_rd_mk, M_lastFault_mk, M_lastPlace_mk, M_lf_mk, M_number_mk, M_codeSort_mk, M_codeA_mk, M_codeB_mk, M_codeC_mk, M_codeName_mk, M_codePlace_mk, M_codeTo_mk, M_labelName_mk, M_labelAt_mk, M_data_mk, M_cd_mk, M_s_mk, M_spanNow_mk, M_sizeNow_mk, M_placeThen_mk, M_rn_mk, M_aside_mk, M_further_mk, M_shotAlarm_mk, M_drawn_mk, M_ex_mk, M_image_mk, M_hasImage_mk, M_im_mk, M_alonePlace_mk, M_aloneSteps_mk, M_aloneOut_mk, M_aloneRegister_mk, M_aloneReal_mk, M_aloneMemory_mk, M_aloneOutput_mk, M_al_mk, M_thrown_mk, List.cons_append, List.nil_append, List.append_nil]) <;> rfl) dX10_nameHere_63
theorem yv_X10_nameHere : YV yX10_nameHere cX10_nameHere 2 (none) 0 := ⟨⟨by decide +kernel, by decide +kernel, by decide +kernel⟩, wd_1484, wd_102, wd_1483, wd_35⟩
def f_M_wrongAt (v : T_M) (a1 : Int32) (a2 : Int32) : Option (T_M) :=
  (if (M_fault (M_rd v)) = (0 : Int32) then (some ((M_tp v), ((M_lines (M_rd v)), (M_size (M_rd v)), (M_at (M_rd v)), (M_place (M_rd v)), (M_sort (M_rd v)), (M_value (M_rd v)), a1, a2, (M_isTold (M_rd v)), (M_hasData (M_rd v))), (M_lf v), (M_cd v), (M_rn v), (M_ex v), (M_im v), (M_al v), (M_thrown v))) else (some v))
abbrev rm_M_wrongAt : Room := { frames := 0, cells := 0, slots := 0, locals := 0 }
set_option maxRecDepth 100000 in
set_option maxHeartbeats 4000000 in
theorem m_M_wrongAt (l : Launch) (D : va_G) (K : Nat → ClassId) (q : Nat → Nat) (v : T_M) (a1 : Int32) (a2 : Int32) {o_v : T_M} (hf : f_M_wrongAt v a1 a2 = some o_v) : MV l yX10_wrongAt cX10_wrongAt 3 (none) rm_M_wrongAt D K [.ref (q 0), .int a1, .int a2] (cl_M K q v) (cl_M K q o_v) := by
  refine MV_of (loc0 := [(0, .ref (q 0)), (1, .int a1), (2, .int a2)]) (by decide +kernel) rfl (Nat.le_of_ble_eq_true rfl) ?_
  intro p e s m args below meth c A cx
  unfold f_M_wrongAt at hf
  refine r_ws (ws' := [((q 0), ob 9 [.int (M_thrown v), .ref (q 1), .int (M_taped (M_tp v)), .ref (q 2), .ref (q 3), .ref (q 4), .ref (q 5), .ref (q 6), .ref (q 7), .ref (q 8), .ref (q 9), .ref (q 10), .ref (q 11), .ref (q 12), .ref (q 13), .ref (q 14), .int (M_lines (M_rd v)), .int (M_size (M_rd v)), .int (M_at (M_rd v)), .int (M_place (M_rd v)), .int (M_sort (M_rd v)), .int (M_value (M_rd v)), .int (M_fault (M_rd v)), .int (M_faultPlace (M_rd v)), .int (M_lastFault (M_lf v)), .int (M_lastPlace (M_lf v)), .ref (q 15), .ref (q 16), .ref (q 17), .ref (q 18), .int (M_hasImage (M_im v)), .int (M_spanNow (M_rn v)), .ref (q 19), .int (M_placeThen (M_rn v)), .int (M_alonePlace (M_al v)), .int (M_aloneSteps (M_al v)), .int (M_aloneOut (M_al v)), .ref (q 20), .ref (q 21), .ref (q 22), .ref (q 23), .int (M_shotAlarm (M_ex v)), .int (M_drawn (M_ex v))]), ((q 1), aI K 700 (M_tape (M_tp v))), ((q 2), aI K 20 (M_number (M_cd v))), ((q 3), aZ K 5 (M_isTold (M_rd v))), ((q 4), aI K 80 (M_codeSort (M_cd v))), ((q 5), aI K 80 (M_codeA (M_cd v))), ((q 6), aI K 80 (M_codeB (M_cd v))), ((q 7), aI K 80 (M_codeC (M_cd v))), ((q 8), aI K 80 (M_codeName (M_cd v))), ((q 9), aI K 80 (M_codePlace (M_cd v))), ((q 10), aI K 80 (M_codeTo (M_cd v))), ((q 11), aI K 280 (M_labelName (M_cd v))), ((q 12), aI K 280 (M_labelAt (M_cd v))), ((q 13), aI K 64 (M_data (M_cd v))), ((q 14), aZ K 32 (M_hasData (M_rd v))), ((q 15), aI K 314 (M_s (M_rn v))), ((q 16), aI K 314 (M_aside (M_ex v))), ((q 17), aI K 314 (M_further (M_ex v))), ((q 18), aI K 314 (M_image (M_im v))), ((q 19), aI K 3 (M_sizeNow (M_rn v))), ((q 20), aI K 8 (M_aloneRegister (M_al v))), ((q 21), aI K 4 (M_aloneReal (M_al v))), ((q 22), aI K 32 (M_aloneMemory (M_al v))), ((q 23), aI K 999 (M_aloneOutput (M_al v)))]) rfl ?_
  refine r_aload_n (pc := 0) cx dX10_wrongAt_0 0 rfl ?_
  refine r_get (pc := 1) cx cf_X10 0 22 rfl (by decide) rfl wd_1338 dX10_wrongAt_1 ?_
  refine r_if_eq (pc := 4) (tgt := 8) cx dX10_wrongAt_4 (by decide) (fun h1 => ?_) (fun h1 => ?_)
  · replace hf := ifp h1 hf
    refine r_aload_n (pc := 8) cx dX10_wrongAt_8 0 rfl ?_
    refine r_iload_n (pc := 9) cx dX10_wrongAt_9 1 rfl ?_
    refine r_putI (pc := 10) (ws' := [((q 0), ob 9 [.int (M_thrown v), .ref (q 1), .int (M_taped (M_tp v)), .ref (q 2), .ref (q 3), .ref (q 4), .ref (q 5), .ref (q 6), .ref (q 7), .ref (q 8), .ref (q 9), .ref (q 10), .ref (q 11), .ref (q 12), .ref (q 13), .ref (q 14), .int (M_lines (M_rd v)), .int (M_size (M_rd v)), .int (M_at (M_rd v)), .int (M_place (M_rd v)), .int (M_sort (M_rd v)), .int (M_value (M_rd v)), .int a1, .int (M_faultPlace (M_rd v)), .int (M_lastFault (M_lf v)), .int (M_lastPlace (M_lf v)), .ref (q 15), .ref (q 16), .ref (q 17), .ref (q 18), .int (M_hasImage (M_im v)), .int (M_spanNow (M_rn v)), .ref (q 19), .int (M_placeThen (M_rn v)), .int (M_alonePlace (M_al v)), .int (M_aloneSteps (M_al v)), .int (M_aloneOut (M_al v)), .ref (q 20), .ref (q 21), .ref (q 22), .ref (q 23), .int (M_shotAlarm (M_ex v)), .int (M_drawn (M_ex v))]), ((q 1), aI K 700 (M_tape (M_tp v))), ((q 2), aI K 20 (M_number (M_cd v))), ((q 3), aZ K 5 (M_isTold (M_rd v))), ((q 4), aI K 80 (M_codeSort (M_cd v))), ((q 5), aI K 80 (M_codeA (M_cd v))), ((q 6), aI K 80 (M_codeB (M_cd v))), ((q 7), aI K 80 (M_codeC (M_cd v))), ((q 8), aI K 80 (M_codeName (M_cd v))), ((q 9), aI K 80 (M_codePlace (M_cd v))), ((q 10), aI K 80 (M_codeTo (M_cd v))), ((q 11), aI K 280 (M_labelName (M_cd v))), ((q 12), aI K 280 (M_labelAt (M_cd v))), ((q 13), aI K 64 (M_data (M_cd v))), ((q 14), aZ K 32 (M_hasData (M_rd v))), ((q 15), aI K 314 (M_s (M_rn v))), ((q 16), aI K 314 (M_aside (M_ex v))), ((q 17), aI K 314 (M_further (M_ex v))), ((q 18), aI K 314 (M_image (M_im v))), ((q 19), aI K 3 (M_sizeNow (M_rn v))), ((q 20), aI K 8 (M_aloneRegister (M_al v))), ((q 21), aI K 4 (M_aloneReal (M_al v))), ((q 22), aI K 32 (M_aloneMemory (M_al v))), ((q 23), aI K 999 (M_aloneOutput (M_al v)))]) cx cf_X10 0 22 rfl (by decide) (Nat.le_of_ble_eq_true rfl) rfl pfd_I wd_1338 dX10_wrongAt_10 rfl ?_
    refine r_aload_n (pc := 13) cx dX10_wrongAt_13 0 rfl ?_
    refine r_iload_n (pc := 14) cx dX10_wrongAt_14 2 rfl ?_
    refine r_putI (pc := 15) (ws' := [((q 0), ob 9 [.int (M_thrown v), .ref (q 1), .int (M_taped (M_tp v)), .ref (q 2), .ref (q 3), .ref (q 4), .ref (q 5), .ref (q 6), .ref (q 7), .ref (q 8), .ref (q 9), .ref (q 10), .ref (q 11), .ref (q 12), .ref (q 13), .ref (q 14), .int (M_lines (M_rd v)), .int (M_size (M_rd v)), .int (M_at (M_rd v)), .int (M_place (M_rd v)), .int (M_sort (M_rd v)), .int (M_value (M_rd v)), .int a1, .int a2, .int (M_lastFault (M_lf v)), .int (M_lastPlace (M_lf v)), .ref (q 15), .ref (q 16), .ref (q 17), .ref (q 18), .int (M_hasImage (M_im v)), .int (M_spanNow (M_rn v)), .ref (q 19), .int (M_placeThen (M_rn v)), .int (M_alonePlace (M_al v)), .int (M_aloneSteps (M_al v)), .int (M_aloneOut (M_al v)), .ref (q 20), .ref (q 21), .ref (q 22), .ref (q 23), .int (M_shotAlarm (M_ex v)), .int (M_drawn (M_ex v))]), ((q 1), aI K 700 (M_tape (M_tp v))), ((q 2), aI K 20 (M_number (M_cd v))), ((q 3), aZ K 5 (M_isTold (M_rd v))), ((q 4), aI K 80 (M_codeSort (M_cd v))), ((q 5), aI K 80 (M_codeA (M_cd v))), ((q 6), aI K 80 (M_codeB (M_cd v))), ((q 7), aI K 80 (M_codeC (M_cd v))), ((q 8), aI K 80 (M_codeName (M_cd v))), ((q 9), aI K 80 (M_codePlace (M_cd v))), ((q 10), aI K 80 (M_codeTo (M_cd v))), ((q 11), aI K 280 (M_labelName (M_cd v))), ((q 12), aI K 280 (M_labelAt (M_cd v))), ((q 13), aI K 64 (M_data (M_cd v))), ((q 14), aZ K 32 (M_hasData (M_rd v))), ((q 15), aI K 314 (M_s (M_rn v))), ((q 16), aI K 314 (M_aside (M_ex v))), ((q 17), aI K 314 (M_further (M_ex v))), ((q 18), aI K 314 (M_image (M_im v))), ((q 19), aI K 3 (M_sizeNow (M_rn v))), ((q 20), aI K 8 (M_aloneRegister (M_al v))), ((q 21), aI K 4 (M_aloneReal (M_al v))), ((q 22), aI K 32 (M_aloneMemory (M_al v))), ((q 23), aI K 999 (M_aloneOutput (M_al v)))]) cx cf_X10 0 23 rfl (by decide) (Nat.le_of_ble_eq_true rfl) rfl pfd_I wd_1339 dX10_wrongAt_15 rfl ?_
    have hi := inj1 hf
    exact r_vret (pc := 18) cx (by rw [← hi]; (try simp only [cl_M, M_tape_mk, M_taped_mk, M_tp_mk, M_lines_mk, M_size_mk, M_at_mk, M_place_mk, M_sort_mk, M_value_mk, M_fault_mk, M_faultPlace_mk, M_isTold_mk, M_hasData_mk, M_rd_mk, M_lastFault_mk, M_lastPlace_mk, M_lf_mk, M_number_mk, M_codeSort_mk, M_codeA_mk, M_codeB_mk, M_codeC_mk, M_codeName_mk, M_codePlace_mk, M_codeTo_mk, M_labelName_mk, M_labelAt_mk, M_data_mk, M_cd_mk, M_s_mk, M_spanNow_mk, M_sizeNow_mk, M_placeThen_mk, M_rn_mk, M_aside_mk, M_further_mk, M_shotAlarm_mk, M_drawn_mk, M_ex_mk, M_image_mk, M_hasImage_mk, M_im_mk, M_alonePlace_mk, M_aloneSteps_mk, M_aloneOut_mk, M_aloneRegister_mk, M_aloneReal_mk, M_aloneMemory_mk, M_aloneOutput_mk, M_al_mk, M_thrown_mk, List.cons_append, List.nil_append, List.append_nil]) <;> rfl) dX10_wrongAt_18
  · replace hf := ifn h1 hf
    have hi := inj1 hf
    exact r_vret (pc := 7) cx (by rw [← hi]; rfl) dX10_wrongAt_7
theorem yv_X10_wrongAt : YV yX10_wrongAt cX10_wrongAt 3 (none) 2 := ⟨⟨by decide +kernel, by decide +kernel, by decide +kernel⟩, wd_1500, wd_102, wd_1499, wd_38⟩
def f_M_wrong (v : T_M) (a1 : Int32) : Option (T_M) :=
  (bd (f_M_wrongAt v a1 (M_place (M_rd v))) fun (v1 : T_M) => (some v1))
abbrev rm_M_wrong : Room := { frames := 1, cells := 0, slots := 0, locals := 22 }
set_option maxRecDepth 100000 in
set_option maxHeartbeats 4000000 in
theorem m_M_wrong (l : Launch) (D : va_G) (K : Nat → ClassId) (q : Nat → Nat) (v : T_M) (a1 : Int32) {o_v : T_M} (hf : f_M_wrong v a1 = some o_v) : MV l yX10_wrong cX10_wrong 2 (none) rm_M_wrong D K [.ref (q 0), .int a1] (cl_M K q v) (cl_M K q o_v) := by
  refine MV_of (loc0 := [(0, .ref (q 0)), (1, .int a1)]) (by decide +kernel) rfl (Nat.le_of_ble_eq_true rfl) ?_
  intro p e s m args below meth c A cx
  unfold f_M_wrong at hf
  refine r_ws (ws' := [((q 0), ob 9 [.int (M_thrown v), .ref (q 1), .int (M_taped (M_tp v)), .ref (q 2), .ref (q 3), .ref (q 4), .ref (q 5), .ref (q 6), .ref (q 7), .ref (q 8), .ref (q 9), .ref (q 10), .ref (q 11), .ref (q 12), .ref (q 13), .ref (q 14), .int (M_lines (M_rd v)), .int (M_size (M_rd v)), .int (M_at (M_rd v)), .int (M_place (M_rd v)), .int (M_sort (M_rd v)), .int (M_value (M_rd v)), .int (M_fault (M_rd v)), .int (M_faultPlace (M_rd v)), .int (M_lastFault (M_lf v)), .int (M_lastPlace (M_lf v)), .ref (q 15), .ref (q 16), .ref (q 17), .ref (q 18), .int (M_hasImage (M_im v)), .int (M_spanNow (M_rn v)), .ref (q 19), .int (M_placeThen (M_rn v)), .int (M_alonePlace (M_al v)), .int (M_aloneSteps (M_al v)), .int (M_aloneOut (M_al v)), .ref (q 20), .ref (q 21), .ref (q 22), .ref (q 23), .int (M_shotAlarm (M_ex v)), .int (M_drawn (M_ex v))]), ((q 1), aI K 700 (M_tape (M_tp v))), ((q 2), aI K 20 (M_number (M_cd v))), ((q 3), aZ K 5 (M_isTold (M_rd v))), ((q 4), aI K 80 (M_codeSort (M_cd v))), ((q 5), aI K 80 (M_codeA (M_cd v))), ((q 6), aI K 80 (M_codeB (M_cd v))), ((q 7), aI K 80 (M_codeC (M_cd v))), ((q 8), aI K 80 (M_codeName (M_cd v))), ((q 9), aI K 80 (M_codePlace (M_cd v))), ((q 10), aI K 80 (M_codeTo (M_cd v))), ((q 11), aI K 280 (M_labelName (M_cd v))), ((q 12), aI K 280 (M_labelAt (M_cd v))), ((q 13), aI K 64 (M_data (M_cd v))), ((q 14), aZ K 32 (M_hasData (M_rd v))), ((q 15), aI K 314 (M_s (M_rn v))), ((q 16), aI K 314 (M_aside (M_ex v))), ((q 17), aI K 314 (M_further (M_ex v))), ((q 18), aI K 314 (M_image (M_im v))), ((q 19), aI K 3 (M_sizeNow (M_rn v))), ((q 20), aI K 8 (M_aloneRegister (M_al v))), ((q 21), aI K 4 (M_aloneReal (M_al v))), ((q 22), aI K 32 (M_aloneMemory (M_al v))), ((q 23), aI K 999 (M_aloneOutput (M_al v)))]) rfl ?_
  refine r_aload_n (pc := 0) cx dX10_wrong_0 0 rfl ?_
  refine r_iload_n (pc := 1) cx dX10_wrong_1 1 rfl ?_
  refine r_aload_n (pc := 2) cx dX10_wrong_2 0 rfl ?_
  refine r_get (pc := 3) cx cf_X10 0 19 rfl (by decide) rfl wd_1335 dX10_wrong_3 ?_
  replace hf := bd_of hf
  obtain ⟨v1, hc2, hf⟩ := hf
  refine r_Vv (pc := 6) (ws' := [((q 0), ob 9 [.int (M_thrown v1), .ref (q 1), .int (M_taped (M_tp v1)), .ref (q 2), .ref (q 3), .ref (q 4), .ref (q 5), .ref (q 6), .ref (q 7), .ref (q 8), .ref (q 9), .ref (q 10), .ref (q 11), .ref (q 12), .ref (q 13), .ref (q 14), .int (M_lines (M_rd v1)), .int (M_size (M_rd v1)), .int (M_at (M_rd v1)), .int (M_place (M_rd v1)), .int (M_sort (M_rd v1)), .int (M_value (M_rd v1)), .int (M_fault (M_rd v1)), .int (M_faultPlace (M_rd v1)), .int (M_lastFault (M_lf v1)), .int (M_lastPlace (M_lf v1)), .ref (q 15), .ref (q 16), .ref (q 17), .ref (q 18), .int (M_hasImage (M_im v1)), .int (M_spanNow (M_rn v1)), .ref (q 19), .int (M_placeThen (M_rn v1)), .int (M_alonePlace (M_al v1)), .int (M_aloneSteps (M_al v1)), .int (M_aloneOut (M_al v1)), .ref (q 20), .ref (q 21), .ref (q 22), .ref (q 23), .int (M_shotAlarm (M_ex v1)), .int (M_drawn (M_ex v1))]), ((q 1), aI K 700 (M_tape (M_tp v1))), ((q 2), aI K 20 (M_number (M_cd v1))), ((q 3), aZ K 5 (M_isTold (M_rd v1))), ((q 4), aI K 80 (M_codeSort (M_cd v1))), ((q 5), aI K 80 (M_codeA (M_cd v1))), ((q 6), aI K 80 (M_codeB (M_cd v1))), ((q 7), aI K 80 (M_codeC (M_cd v1))), ((q 8), aI K 80 (M_codeName (M_cd v1))), ((q 9), aI K 80 (M_codePlace (M_cd v1))), ((q 10), aI K 80 (M_codeTo (M_cd v1))), ((q 11), aI K 280 (M_labelName (M_cd v1))), ((q 12), aI K 280 (M_labelAt (M_cd v1))), ((q 13), aI K 64 (M_data (M_cd v1))), ((q 14), aZ K 32 (M_hasData (M_rd v1))), ((q 15), aI K 314 (M_s (M_rn v1))), ((q 16), aI K 314 (M_aside (M_ex v1))), ((q 17), aI K 314 (M_further (M_ex v1))), ((q 18), aI K 314 (M_image (M_im v1))), ((q 19), aI K 3 (M_sizeNow (M_rn v1))), ((q 20), aI K 8 (M_aloneRegister (M_al v1))), ((q 21), aI K 4 (M_aloneReal (M_al v1))), ((q 22), aI K 32 (M_aloneMemory (M_al v1))), ((q 23), aI K 999 (M_aloneOutput (M_al v1)))]) (wc := [((q 0), ob 9 [.int (M_thrown v), .ref (q 1), .int (M_taped (M_tp v)), .ref (q 2), .ref (q 3), .ref (q 4), .ref (q 5), .ref (q 6), .ref (q 7), .ref (q 8), .ref (q 9), .ref (q 10), .ref (q 11), .ref (q 12), .ref (q 13), .ref (q 14), .int (M_lines (M_rd v)), .int (M_size (M_rd v)), .int (M_at (M_rd v)), .int (M_place (M_rd v)), .int (M_sort (M_rd v)), .int (M_value (M_rd v)), .int (M_fault (M_rd v)), .int (M_faultPlace (M_rd v)), .int (M_lastFault (M_lf v)), .int (M_lastPlace (M_lf v)), .ref (q 15), .ref (q 16), .ref (q 17), .ref (q 18), .int (M_hasImage (M_im v)), .int (M_spanNow (M_rn v)), .ref (q 19), .int (M_placeThen (M_rn v)), .int (M_alonePlace (M_al v)), .int (M_aloneSteps (M_al v)), .int (M_aloneOut (M_al v)), .ref (q 20), .ref (q 21), .ref (q 22), .ref (q 23), .int (M_shotAlarm (M_ex v)), .int (M_drawn (M_ex v))]), ((q 1), aI K 700 (M_tape (M_tp v))), ((q 2), aI K 20 (M_number (M_cd v))), ((q 3), aZ K 5 (M_isTold (M_rd v))), ((q 4), aI K 80 (M_codeSort (M_cd v))), ((q 5), aI K 80 (M_codeA (M_cd v))), ((q 6), aI K 80 (M_codeB (M_cd v))), ((q 7), aI K 80 (M_codeC (M_cd v))), ((q 8), aI K 80 (M_codeName (M_cd v))), ((q 9), aI K 80 (M_codePlace (M_cd v))), ((q 10), aI K 80 (M_codeTo (M_cd v))), ((q 11), aI K 280 (M_labelName (M_cd v))), ((q 12), aI K 280 (M_labelAt (M_cd v))), ((q 13), aI K 64 (M_data (M_cd v))), ((q 14), aZ K 32 (M_hasData (M_rd v))), ((q 15), aI K 314 (M_s (M_rn v))), ((q 16), aI K 314 (M_aside (M_ex v))), ((q 17), aI K 314 (M_further (M_ex v))), ((q 18), aI K 314 (M_image (M_im v))), ((q 19), aI K 3 (M_sizeNow (M_rn v))), ((q 20), aI K 8 (M_aloneRegister (M_al v))), ((q 21), aI K 4 (M_aloneReal (M_al v))), ((q 22), aI K 32 (M_aloneMemory (M_al v))), ((q 23), aI K 999 (M_aloneOutput (M_al v)))]) (nn := 24) cx [.int a1, .int (M_place (M_rd v))] [] (m_M_wrongAt l D K q v a1 (M_place (M_rd v)) hc2) rfl yv_X10_wrongAt wd_1497 ⟨rfl, rfl⟩ (by decide) (fr_s (j := 0) rfl rfl rfl (fr_s (j := 1) rfl rfl rfl (fr_s (j := 2) rfl rfl rfl (fr_s (j := 3) rfl rfl rfl (fr_s (j := 4) rfl rfl rfl (fr_s (j := 5) rfl rfl rfl (fr_s (j := 6) rfl rfl rfl (fr_s (j := 7) rfl rfl rfl (fr_s (j := 8) rfl rfl rfl (fr_s (j := 9) rfl rfl rfl (fr_s (j := 10) rfl rfl rfl (fr_s (j := 11) rfl rfl rfl (fr_s (j := 12) rfl rfl rfl (fr_s (j := 13) rfl rfl rfl (fr_s (j := 14) rfl rfl rfl (fr_s (j := 15) rfl rfl rfl (fr_s (j := 16) rfl rfl rfl (fr_s (j := 17) rfl rfl rfl (fr_s (j := 18) rfl rfl rfl (fr_s (j := 19) rfl rfl rfl (fr_s (j := 20) rfl rfl rfl (fr_s (j := 21) rfl rfl rfl (fr_s (j := 22) rfl rfl rfl (fr_s (j := 23) rfl rfl rfl (fr_n))))))))))))))))))))))))) rfl (by decide) 0 rfl rfl rfl (Nat.le_of_ble_eq_true rfl) dX10_wrong_6 ?_
  have hi := inj1 hf
  exact r_vret (pc := 9) cx (by rw [← hi]; rfl) dX10_wrong_9
theorem yv_X10_wrong : YV yX10_wrong cX10_wrong 2 (none) 1 := ⟨⟨by decide +kernel, by decide +kernel, by decide +kernel⟩, wd_1496, wd_102, wd_1495, wd_37⟩
def f_M_numberAtHand (v : T_M) (a1 : Int32) (a2 : Int32) : Option (Int32 × T_M) :=
  (if (M_fault (M_rd v)) = (0 : Int32) then (nm (fun (v2 : T_M) => ((if (M_fault (M_rd v2)) = (0 : Int32) then (some ((M_value (M_rd v2)), v2)) else (some (a1, v2))) : Option (Int32 × T_M))) fun J3 => (if (M_sort (M_rd v)) = (2 : Int32) then (if (M_value (M_rd v)) < a1 then (bd (f_M_wrong v (2 : Int32)) fun (v7 : T_M) => (J3 v7)) else (if (M_value (M_rd v)) ≤ a2 then (J3 v) else (bd (f_M_wrong v (2 : Int32)) fun (v10 : T_M) => (J3 v10)))) else (bd (f_M_wrong v (1 : Int32)) fun (v12 : T_M) => (J3 v12)))) else (some (a1, v)))
abbrev rm_M_numberAtHand : Room := { frames := 2, cells := 0, slots := 0, locals := 43 }
set_option maxRecDepth 100000 in
set_option maxHeartbeats 4000000 in
theorem m_M_numberAtHand (l : Launch) (D : va_G) (K : Nat → ClassId) (q : Nat → Nat) (v : T_M) (a1 : Int32) (a2 : Int32) {r_ : Int32} {o_v : T_M} (hf : f_M_numberAtHand v a1 a2 = some (r_, o_v)) : MI l yX10_numberAtHand cX10_numberAtHand 3 (some .int) rm_M_numberAtHand D K [.ref (q 0), .int a1, .int a2] (cl_M K q v) r_ (cl_M K q o_v) := by
  refine MI_of (loc0 := [(0, .ref (q 0)), (1, .int a1), (2, .int a2)]) (by decide +kernel) rfl (Nat.le_of_ble_eq_true rfl) ?_
  intro p e s m args below meth c A cx
  unfold f_M_numberAtHand at hf
  refine r_ws (ws' := [((q 0), ob 9 [.int (M_thrown v), .ref (q 1), .int (M_taped (M_tp v)), .ref (q 2), .ref (q 3), .ref (q 4), .ref (q 5), .ref (q 6), .ref (q 7), .ref (q 8), .ref (q 9), .ref (q 10), .ref (q 11), .ref (q 12), .ref (q 13), .ref (q 14), .int (M_lines (M_rd v)), .int (M_size (M_rd v)), .int (M_at (M_rd v)), .int (M_place (M_rd v)), .int (M_sort (M_rd v)), .int (M_value (M_rd v)), .int (M_fault (M_rd v)), .int (M_faultPlace (M_rd v)), .int (M_lastFault (M_lf v)), .int (M_lastPlace (M_lf v)), .ref (q 15), .ref (q 16), .ref (q 17), .ref (q 18), .int (M_hasImage (M_im v)), .int (M_spanNow (M_rn v)), .ref (q 19), .int (M_placeThen (M_rn v)), .int (M_alonePlace (M_al v)), .int (M_aloneSteps (M_al v)), .int (M_aloneOut (M_al v)), .ref (q 20), .ref (q 21), .ref (q 22), .ref (q 23), .int (M_shotAlarm (M_ex v)), .int (M_drawn (M_ex v))]), ((q 1), aI K 700 (M_tape (M_tp v))), ((q 2), aI K 20 (M_number (M_cd v))), ((q 3), aZ K 5 (M_isTold (M_rd v))), ((q 4), aI K 80 (M_codeSort (M_cd v))), ((q 5), aI K 80 (M_codeA (M_cd v))), ((q 6), aI K 80 (M_codeB (M_cd v))), ((q 7), aI K 80 (M_codeC (M_cd v))), ((q 8), aI K 80 (M_codeName (M_cd v))), ((q 9), aI K 80 (M_codePlace (M_cd v))), ((q 10), aI K 80 (M_codeTo (M_cd v))), ((q 11), aI K 280 (M_labelName (M_cd v))), ((q 12), aI K 280 (M_labelAt (M_cd v))), ((q 13), aI K 64 (M_data (M_cd v))), ((q 14), aZ K 32 (M_hasData (M_rd v))), ((q 15), aI K 314 (M_s (M_rn v))), ((q 16), aI K 314 (M_aside (M_ex v))), ((q 17), aI K 314 (M_further (M_ex v))), ((q 18), aI K 314 (M_image (M_im v))), ((q 19), aI K 3 (M_sizeNow (M_rn v))), ((q 20), aI K 8 (M_aloneRegister (M_al v))), ((q 21), aI K 4 (M_aloneReal (M_al v))), ((q 22), aI K 32 (M_aloneMemory (M_al v))), ((q 23), aI K 999 (M_aloneOutput (M_al v)))]) rfl ?_
  refine r_aload_n (pc := 0) cx dX10_numberAtHand_0 0 rfl ?_
  refine r_get (pc := 1) cx cf_X10 0 22 rfl (by decide) rfl wd_1338 dX10_numberAtHand_1 ?_
  refine r_if_eq (pc := 4) (tgt := 9) cx dX10_numberAtHand_4 (by decide) (fun h1 => ?_) (fun h1 => ?_)
  · replace hf := ifp h1 hf
    refine r_aload_n (pc := 9) cx dX10_numberAtHand_9 0 rfl ?_
    refine r_get (pc := 10) cx cf_X10 0 20 rfl (by decide) rfl wd_1336 dX10_numberAtHand_10 ?_
    refine r_iconst (pc := 13) cx dX10_numberAtHand_13 ic_2 ?_
    replace hf := nm_of hf
    obtain ⟨J3, eJ3, hf⟩ := hf
    have hJ3 : ∀ (v2 : T_M), J3 v2 = some (r_, o_v) → WW p l e rm_M_numberAtHand s m args below meth c D A 3 0 0 (MQ below (QI D K A r_ (cl_M K q o_v)) args s 0 0 A) ([((q 0), ob 9 [.int (M_thrown v2), .ref (q 1), .int (M_taped (M_tp v2)), .ref (q 2), .ref (q 3), .ref (q 4), .ref (q 5), .ref (q 6), .ref (q 7), .ref (q 8), .ref (q 9), .ref (q 10), .ref (q 11), .ref (q 12), .ref (q 13), .ref (q 14), .int (M_lines (M_rd v2)), .int (M_size (M_rd v2)), .int (M_at (M_rd v2)), .int (M_place (M_rd v2)), .int (M_sort (M_rd v2)), .int (M_value (M_rd v2)), .int (M_fault (M_rd v2)), .int (M_faultPlace (M_rd v2)), .int (M_lastFault (M_lf v2)), .int (M_lastPlace (M_lf v2)), .ref (q 15), .ref (q 16), .ref (q 17), .ref (q 18), .int (M_hasImage (M_im v2)), .int (M_spanNow (M_rn v2)), .ref (q 19), .int (M_placeThen (M_rn v2)), .int (M_alonePlace (M_al v2)), .int (M_aloneSteps (M_al v2)), .int (M_aloneOut (M_al v2)), .ref (q 20), .ref (q 21), .ref (q 22), .ref (q 23), .int (M_shotAlarm (M_ex v2)), .int (M_drawn (M_ex v2))]), ((q 1), aI K 700 (M_tape (M_tp v2))), ((q 2), aI K 20 (M_number (M_cd v2))), ((q 3), aZ K 5 (M_isTold (M_rd v2))), ((q 4), aI K 80 (M_codeSort (M_cd v2))), ((q 5), aI K 80 (M_codeA (M_cd v2))), ((q 6), aI K 80 (M_codeB (M_cd v2))), ((q 7), aI K 80 (M_codeC (M_cd v2))), ((q 8), aI K 80 (M_codeName (M_cd v2))), ((q 9), aI K 80 (M_codePlace (M_cd v2))), ((q 10), aI K 80 (M_codeTo (M_cd v2))), ((q 11), aI K 280 (M_labelName (M_cd v2))), ((q 12), aI K 280 (M_labelAt (M_cd v2))), ((q 13), aI K 64 (M_data (M_cd v2))), ((q 14), aZ K 32 (M_hasData (M_rd v2))), ((q 15), aI K 314 (M_s (M_rn v2))), ((q 16), aI K 314 (M_aside (M_ex v2))), ((q 17), aI K 314 (M_further (M_ex v2))), ((q 18), aI K 314 (M_image (M_im v2))), ((q 19), aI K 3 (M_sizeNow (M_rn v2))), ((q 20), aI K 8 (M_aloneRegister (M_al v2))), ((q 21), aI K 4 (M_aloneReal (M_al v2))), ((q 22), aI K 32 (M_aloneMemory (M_al v2))), ((q 23), aI K 999 (M_aloneOutput (M_al v2)))]) ([(0, .ref (q 0)), (1, .int a1)]) ([]) 46 := by
      clear hf
      intro v2 hf
      rw [eJ3] at hf
      refine r_aload_n (pc := 46) cx dX10_numberAtHand_46 0 rfl ?_
      refine r_get (pc := 47) cx cf_X10 0 22 rfl (by decide) rfl wd_1338 dX10_numberAtHand_47 ?_
      refine r_if_ne (pc := 50) (tgt := 60) cx dX10_numberAtHand_50 (by decide) (fun h4 => ?_) (fun h4 => ?_)
      · replace hf := ifn h4 hf
        refine r_iload_n (pc := 60) cx dX10_numberAtHand_60 1 rfl ?_
        have hi := inj2 hf
        exact r_iret (pc := 61) cx hi.1 (by rw [← hi.2]; rfl) dX10_numberAtHand_61
      · replace hf := ifp h4 hf
        refine r_aload_n (pc := 53) cx dX10_numberAtHand_53 0 rfl ?_
        refine r_get (pc := 54) cx cf_X10 0 21 rfl (by decide) rfl wd_1337 dX10_numberAtHand_54 ?_
        refine r_goto (pc := 57) (tgt := 61) cx dX10_numberAtHand_57 (by decide) ?_
        have hi := inj2 hf
        exact r_iret (pc := 61) cx hi.1 (by rw [← hi.2]; rfl) dX10_numberAtHand_61
    refine r_icmp_eq (pc := 14) (tgt := 25) cx dX10_numberAtHand_14 (by decide) (fun h5 => ?_) (fun h5 => ?_)
    · replace hf := ifp h5 hf
      refine r_aload_n (pc := 25) cx dX10_numberAtHand_25 0 rfl ?_
      refine r_get (pc := 26) cx cf_X10 0 21 rfl (by decide) rfl wd_1337 dX10_numberAtHand_26 ?_
      refine r_iload_n (pc := 29) cx dX10_numberAtHand_29 1 rfl ?_
      refine r_icmp_lt (pc := 30) (tgt := 41) cx dX10_numberAtHand_30 (by decide) (fun h6 => ?_) (fun h6 => ?_)
      · replace hf := ifp h6 hf
        refine r_aload_n (pc := 41) cx dX10_numberAtHand_41 0 rfl ?_
        refine r_iconst (pc := 42) cx dX10_numberAtHand_42 ic_2 ?_
        replace hf := bd_of hf
        obtain ⟨v7, hc8, hf⟩ := hf
        refine r_Vv (pc := 43) (ws' := [((q 0), ob 9 [.int (M_thrown v7), .ref (q 1), .int (M_taped (M_tp v7)), .ref (q 2), .ref (q 3), .ref (q 4), .ref (q 5), .ref (q 6), .ref (q 7), .ref (q 8), .ref (q 9), .ref (q 10), .ref (q 11), .ref (q 12), .ref (q 13), .ref (q 14), .int (M_lines (M_rd v7)), .int (M_size (M_rd v7)), .int (M_at (M_rd v7)), .int (M_place (M_rd v7)), .int (M_sort (M_rd v7)), .int (M_value (M_rd v7)), .int (M_fault (M_rd v7)), .int (M_faultPlace (M_rd v7)), .int (M_lastFault (M_lf v7)), .int (M_lastPlace (M_lf v7)), .ref (q 15), .ref (q 16), .ref (q 17), .ref (q 18), .int (M_hasImage (M_im v7)), .int (M_spanNow (M_rn v7)), .ref (q 19), .int (M_placeThen (M_rn v7)), .int (M_alonePlace (M_al v7)), .int (M_aloneSteps (M_al v7)), .int (M_aloneOut (M_al v7)), .ref (q 20), .ref (q 21), .ref (q 22), .ref (q 23), .int (M_shotAlarm (M_ex v7)), .int (M_drawn (M_ex v7))]), ((q 1), aI K 700 (M_tape (M_tp v7))), ((q 2), aI K 20 (M_number (M_cd v7))), ((q 3), aZ K 5 (M_isTold (M_rd v7))), ((q 4), aI K 80 (M_codeSort (M_cd v7))), ((q 5), aI K 80 (M_codeA (M_cd v7))), ((q 6), aI K 80 (M_codeB (M_cd v7))), ((q 7), aI K 80 (M_codeC (M_cd v7))), ((q 8), aI K 80 (M_codeName (M_cd v7))), ((q 9), aI K 80 (M_codePlace (M_cd v7))), ((q 10), aI K 80 (M_codeTo (M_cd v7))), ((q 11), aI K 280 (M_labelName (M_cd v7))), ((q 12), aI K 280 (M_labelAt (M_cd v7))), ((q 13), aI K 64 (M_data (M_cd v7))), ((q 14), aZ K 32 (M_hasData (M_rd v7))), ((q 15), aI K 314 (M_s (M_rn v7))), ((q 16), aI K 314 (M_aside (M_ex v7))), ((q 17), aI K 314 (M_further (M_ex v7))), ((q 18), aI K 314 (M_image (M_im v7))), ((q 19), aI K 3 (M_sizeNow (M_rn v7))), ((q 20), aI K 8 (M_aloneRegister (M_al v7))), ((q 21), aI K 4 (M_aloneReal (M_al v7))), ((q 22), aI K 32 (M_aloneMemory (M_al v7))), ((q 23), aI K 999 (M_aloneOutput (M_al v7)))]) (wc := [((q 0), ob 9 [.int (M_thrown v), .ref (q 1), .int (M_taped (M_tp v)), .ref (q 2), .ref (q 3), .ref (q 4), .ref (q 5), .ref (q 6), .ref (q 7), .ref (q 8), .ref (q 9), .ref (q 10), .ref (q 11), .ref (q 12), .ref (q 13), .ref (q 14), .int (M_lines (M_rd v)), .int (M_size (M_rd v)), .int (M_at (M_rd v)), .int (M_place (M_rd v)), .int (M_sort (M_rd v)), .int (M_value (M_rd v)), .int (M_fault (M_rd v)), .int (M_faultPlace (M_rd v)), .int (M_lastFault (M_lf v)), .int (M_lastPlace (M_lf v)), .ref (q 15), .ref (q 16), .ref (q 17), .ref (q 18), .int (M_hasImage (M_im v)), .int (M_spanNow (M_rn v)), .ref (q 19), .int (M_placeThen (M_rn v)), .int (M_alonePlace (M_al v)), .int (M_aloneSteps (M_al v)), .int (M_aloneOut (M_al v)), .ref (q 20), .ref (q 21), .ref (q 22), .ref (q 23), .int (M_shotAlarm (M_ex v)), .int (M_drawn (M_ex v))]), ((q 1), aI K 700 (M_tape (M_tp v))), ((q 2), aI K 20 (M_number (M_cd v))), ((q 3), aZ K 5 (M_isTold (M_rd v))), ((q 4), aI K 80 (M_codeSort (M_cd v))), ((q 5), aI K 80 (M_codeA (M_cd v))), ((q 6), aI K 80 (M_codeB (M_cd v))), ((q 7), aI K 80 (M_codeC (M_cd v))), ((q 8), aI K 80 (M_codeName (M_cd v))), ((q 9), aI K 80 (M_codePlace (M_cd v))), ((q 10), aI K 80 (M_codeTo (M_cd v))), ((q 11), aI K 280 (M_labelName (M_cd v))), ((q 12), aI K 280 (M_labelAt (M_cd v))), ((q 13), aI K 64 (M_data (M_cd v))), ((q 14), aZ K 32 (M_hasData (M_rd v))), ((q 15), aI K 314 (M_s (M_rn v))), ((q 16), aI K 314 (M_aside (M_ex v))), ((q 17), aI K 314 (M_further (M_ex v))), ((q 18), aI K 314 (M_image (M_im v))), ((q 19), aI K 3 (M_sizeNow (M_rn v))), ((q 20), aI K 8 (M_aloneRegister (M_al v))), ((q 21), aI K 4 (M_aloneReal (M_al v))), ((q 22), aI K 32 (M_aloneMemory (M_al v))), ((q 23), aI K 999 (M_aloneOutput (M_al v)))]) (nn := 24) cx [.int (2 : Int32)] [] (m_M_wrong l D K q v (2 : Int32) hc8) rfl yv_X10_wrong wd_1493 ⟨rfl, rfl⟩ (by decide) (fr_s (j := 0) rfl rfl rfl (fr_s (j := 1) rfl rfl rfl (fr_s (j := 2) rfl rfl rfl (fr_s (j := 3) rfl rfl rfl (fr_s (j := 4) rfl rfl rfl (fr_s (j := 5) rfl rfl rfl (fr_s (j := 6) rfl rfl rfl (fr_s (j := 7) rfl rfl rfl (fr_s (j := 8) rfl rfl rfl (fr_s (j := 9) rfl rfl rfl (fr_s (j := 10) rfl rfl rfl (fr_s (j := 11) rfl rfl rfl (fr_s (j := 12) rfl rfl rfl (fr_s (j := 13) rfl rfl rfl (fr_s (j := 14) rfl rfl rfl (fr_s (j := 15) rfl rfl rfl (fr_s (j := 16) rfl rfl rfl (fr_s (j := 17) rfl rfl rfl (fr_s (j := 18) rfl rfl rfl (fr_s (j := 19) rfl rfl rfl (fr_s (j := 20) rfl rfl rfl (fr_s (j := 21) rfl rfl rfl (fr_s (j := 22) rfl rfl rfl (fr_s (j := 23) rfl rfl rfl (fr_n))))))))))))))))))))))))) rfl (by decide) 0 rfl rfl rfl (Nat.le_of_ble_eq_true rfl) dX10_numberAtHand_43 ?_
        refine r_loc (loc' := [(0, .ref (q 0)), (1, .int a1)]) [0, 1] rfl ?_
        exact hJ3 _ hf
      · replace hf := ifn h6 hf
        refine r_aload_n (pc := 33) cx dX10_numberAtHand_33 0 rfl ?_
        refine r_get (pc := 34) cx cf_X10 0 21 rfl (by decide) rfl wd_1337 dX10_numberAtHand_34 ?_
        refine r_iload_n (pc := 37) cx dX10_numberAtHand_37 2 rfl ?_
        refine r_icmp_le (pc := 38) (tgt := 46) cx dX10_numberAtHand_38 (by decide) (fun h9 => ?_) (fun h9 => ?_)
        · replace hf := ifp h9 hf
          refine r_loc (loc' := [(0, .ref (q 0)), (1, .int a1)]) [0, 1] rfl ?_
          exact hJ3 _ hf
        · replace hf := ifn h9 hf
          refine r_aload_n (pc := 41) cx dX10_numberAtHand_41 0 rfl ?_
          refine r_iconst (pc := 42) cx dX10_numberAtHand_42 ic_2 ?_
          replace hf := bd_of hf
          obtain ⟨v10, hc11, hf⟩ := hf
          refine r_Vv (pc := 43) (ws' := [((q 0), ob 9 [.int (M_thrown v10), .ref (q 1), .int (M_taped (M_tp v10)), .ref (q 2), .ref (q 3), .ref (q 4), .ref (q 5), .ref (q 6), .ref (q 7), .ref (q 8), .ref (q 9), .ref (q 10), .ref (q 11), .ref (q 12), .ref (q 13), .ref (q 14), .int (M_lines (M_rd v10)), .int (M_size (M_rd v10)), .int (M_at (M_rd v10)), .int (M_place (M_rd v10)), .int (M_sort (M_rd v10)), .int (M_value (M_rd v10)), .int (M_fault (M_rd v10)), .int (M_faultPlace (M_rd v10)), .int (M_lastFault (M_lf v10)), .int (M_lastPlace (M_lf v10)), .ref (q 15), .ref (q 16), .ref (q 17), .ref (q 18), .int (M_hasImage (M_im v10)), .int (M_spanNow (M_rn v10)), .ref (q 19), .int (M_placeThen (M_rn v10)), .int (M_alonePlace (M_al v10)), .int (M_aloneSteps (M_al v10)), .int (M_aloneOut (M_al v10)), .ref (q 20), .ref (q 21), .ref (q 22), .ref (q 23), .int (M_shotAlarm (M_ex v10)), .int (M_drawn (M_ex v10))]), ((q 1), aI K 700 (M_tape (M_tp v10))), ((q 2), aI K 20 (M_number (M_cd v10))), ((q 3), aZ K 5 (M_isTold (M_rd v10))), ((q 4), aI K 80 (M_codeSort (M_cd v10))), ((q 5), aI K 80 (M_codeA (M_cd v10))), ((q 6), aI K 80 (M_codeB (M_cd v10))), ((q 7), aI K 80 (M_codeC (M_cd v10))), ((q 8), aI K 80 (M_codeName (M_cd v10))), ((q 9), aI K 80 (M_codePlace (M_cd v10))), ((q 10), aI K 80 (M_codeTo (M_cd v10))), ((q 11), aI K 280 (M_labelName (M_cd v10))), ((q 12), aI K 280 (M_labelAt (M_cd v10))), ((q 13), aI K 64 (M_data (M_cd v10))), ((q 14), aZ K 32 (M_hasData (M_rd v10))), ((q 15), aI K 314 (M_s (M_rn v10))), ((q 16), aI K 314 (M_aside (M_ex v10))), ((q 17), aI K 314 (M_further (M_ex v10))), ((q 18), aI K 314 (M_image (M_im v10))), ((q 19), aI K 3 (M_sizeNow (M_rn v10))), ((q 20), aI K 8 (M_aloneRegister (M_al v10))), ((q 21), aI K 4 (M_aloneReal (M_al v10))), ((q 22), aI K 32 (M_aloneMemory (M_al v10))), ((q 23), aI K 999 (M_aloneOutput (M_al v10)))]) (wc := [((q 0), ob 9 [.int (M_thrown v), .ref (q 1), .int (M_taped (M_tp v)), .ref (q 2), .ref (q 3), .ref (q 4), .ref (q 5), .ref (q 6), .ref (q 7), .ref (q 8), .ref (q 9), .ref (q 10), .ref (q 11), .ref (q 12), .ref (q 13), .ref (q 14), .int (M_lines (M_rd v)), .int (M_size (M_rd v)), .int (M_at (M_rd v)), .int (M_place (M_rd v)), .int (M_sort (M_rd v)), .int (M_value (M_rd v)), .int (M_fault (M_rd v)), .int (M_faultPlace (M_rd v)), .int (M_lastFault (M_lf v)), .int (M_lastPlace (M_lf v)), .ref (q 15), .ref (q 16), .ref (q 17), .ref (q 18), .int (M_hasImage (M_im v)), .int (M_spanNow (M_rn v)), .ref (q 19), .int (M_placeThen (M_rn v)), .int (M_alonePlace (M_al v)), .int (M_aloneSteps (M_al v)), .int (M_aloneOut (M_al v)), .ref (q 20), .ref (q 21), .ref (q 22), .ref (q 23), .int (M_shotAlarm (M_ex v)), .int (M_drawn (M_ex v))]), ((q 1), aI K 700 (M_tape (M_tp v))), ((q 2), aI K 20 (M_number (M_cd v))), ((q 3), aZ K 5 (M_isTold (M_rd v))), ((q 4), aI K 80 (M_codeSort (M_cd v))), ((q 5), aI K 80 (M_codeA (M_cd v))), ((q 6), aI K 80 (M_codeB (M_cd v))), ((q 7), aI K 80 (M_codeC (M_cd v))), ((q 8), aI K 80 (M_codeName (M_cd v))), ((q 9), aI K 80 (M_codePlace (M_cd v))), ((q 10), aI K 80 (M_codeTo (M_cd v))), ((q 11), aI K 280 (M_labelName (M_cd v))), ((q 12), aI K 280 (M_labelAt (M_cd v))), ((q 13), aI K 64 (M_data (M_cd v))), ((q 14), aZ K 32 (M_hasData (M_rd v))), ((q 15), aI K 314 (M_s (M_rn v))), ((q 16), aI K 314 (M_aside (M_ex v))), ((q 17), aI K 314 (M_further (M_ex v))), ((q 18), aI K 314 (M_image (M_im v))), ((q 19), aI K 3 (M_sizeNow (M_rn v))), ((q 20), aI K 8 (M_aloneRegister (M_al v))), ((q 21), aI K 4 (M_aloneReal (M_al v))), ((q 22), aI K 32 (M_aloneMemory (M_al v))), ((q 23), aI K 999 (M_aloneOutput (M_al v)))]) (nn := 24) cx [.int (2 : Int32)] [] (m_M_wrong l D K q v (2 : Int32) hc11) rfl yv_X10_wrong wd_1493 ⟨rfl, rfl⟩ (by decide) (fr_s (j := 0) rfl rfl rfl (fr_s (j := 1) rfl rfl rfl (fr_s (j := 2) rfl rfl rfl (fr_s (j := 3) rfl rfl rfl (fr_s (j := 4) rfl rfl rfl (fr_s (j := 5) rfl rfl rfl (fr_s (j := 6) rfl rfl rfl (fr_s (j := 7) rfl rfl rfl (fr_s (j := 8) rfl rfl rfl (fr_s (j := 9) rfl rfl rfl (fr_s (j := 10) rfl rfl rfl (fr_s (j := 11) rfl rfl rfl (fr_s (j := 12) rfl rfl rfl (fr_s (j := 13) rfl rfl rfl (fr_s (j := 14) rfl rfl rfl (fr_s (j := 15) rfl rfl rfl (fr_s (j := 16) rfl rfl rfl (fr_s (j := 17) rfl rfl rfl (fr_s (j := 18) rfl rfl rfl (fr_s (j := 19) rfl rfl rfl (fr_s (j := 20) rfl rfl rfl (fr_s (j := 21) rfl rfl rfl (fr_s (j := 22) rfl rfl rfl (fr_s (j := 23) rfl rfl rfl (fr_n))))))))))))))))))))))))) rfl (by decide) 0 rfl rfl rfl (Nat.le_of_ble_eq_true rfl) dX10_numberAtHand_43 ?_
          refine r_loc (loc' := [(0, .ref (q 0)), (1, .int a1)]) [0, 1] rfl ?_
          exact hJ3 _ hf
    · replace hf := ifn h5 hf
      refine r_aload_n (pc := 17) cx dX10_numberAtHand_17 0 rfl ?_
      refine r_iconst (pc := 18) cx dX10_numberAtHand_18 ic_1 ?_
      replace hf := bd_of hf
      obtain ⟨v12, hc13, hf⟩ := hf
      refine r_Vv (pc := 19) (ws' := [((q 0), ob 9 [.int (M_thrown v12), .ref (q 1), .int (M_taped (M_tp v12)), .ref (q 2), .ref (q 3), .ref (q 4), .ref (q 5), .ref (q 6), .ref (q 7), .ref (q 8), .ref (q 9), .ref (q 10), .ref (q 11), .ref (q 12), .ref (q 13), .ref (q 14), .int (M_lines (M_rd v12)), .int (M_size (M_rd v12)), .int (M_at (M_rd v12)), .int (M_place (M_rd v12)), .int (M_sort (M_rd v12)), .int (M_value (M_rd v12)), .int (M_fault (M_rd v12)), .int (M_faultPlace (M_rd v12)), .int (M_lastFault (M_lf v12)), .int (M_lastPlace (M_lf v12)), .ref (q 15), .ref (q 16), .ref (q 17), .ref (q 18), .int (M_hasImage (M_im v12)), .int (M_spanNow (M_rn v12)), .ref (q 19), .int (M_placeThen (M_rn v12)), .int (M_alonePlace (M_al v12)), .int (M_aloneSteps (M_al v12)), .int (M_aloneOut (M_al v12)), .ref (q 20), .ref (q 21), .ref (q 22), .ref (q 23), .int (M_shotAlarm (M_ex v12)), .int (M_drawn (M_ex v12))]), ((q 1), aI K 700 (M_tape (M_tp v12))), ((q 2), aI K 20 (M_number (M_cd v12))), ((q 3), aZ K 5 (M_isTold (M_rd v12))), ((q 4), aI K 80 (M_codeSort (M_cd v12))), ((q 5), aI K 80 (M_codeA (M_cd v12))), ((q 6), aI K 80 (M_codeB (M_cd v12))), ((q 7), aI K 80 (M_codeC (M_cd v12))), ((q 8), aI K 80 (M_codeName (M_cd v12))), ((q 9), aI K 80 (M_codePlace (M_cd v12))), ((q 10), aI K 80 (M_codeTo (M_cd v12))), ((q 11), aI K 280 (M_labelName (M_cd v12))), ((q 12), aI K 280 (M_labelAt (M_cd v12))), ((q 13), aI K 64 (M_data (M_cd v12))), ((q 14), aZ K 32 (M_hasData (M_rd v12))), ((q 15), aI K 314 (M_s (M_rn v12))), ((q 16), aI K 314 (M_aside (M_ex v12))), ((q 17), aI K 314 (M_further (M_ex v12))), ((q 18), aI K 314 (M_image (M_im v12))), ((q 19), aI K 3 (M_sizeNow (M_rn v12))), ((q 20), aI K 8 (M_aloneRegister (M_al v12))), ((q 21), aI K 4 (M_aloneReal (M_al v12))), ((q 22), aI K 32 (M_aloneMemory (M_al v12))), ((q 23), aI K 999 (M_aloneOutput (M_al v12)))]) (wc := [((q 0), ob 9 [.int (M_thrown v), .ref (q 1), .int (M_taped (M_tp v)), .ref (q 2), .ref (q 3), .ref (q 4), .ref (q 5), .ref (q 6), .ref (q 7), .ref (q 8), .ref (q 9), .ref (q 10), .ref (q 11), .ref (q 12), .ref (q 13), .ref (q 14), .int (M_lines (M_rd v)), .int (M_size (M_rd v)), .int (M_at (M_rd v)), .int (M_place (M_rd v)), .int (M_sort (M_rd v)), .int (M_value (M_rd v)), .int (M_fault (M_rd v)), .int (M_faultPlace (M_rd v)), .int (M_lastFault (M_lf v)), .int (M_lastPlace (M_lf v)), .ref (q 15), .ref (q 16), .ref (q 17), .ref (q 18), .int (M_hasImage (M_im v)), .int (M_spanNow (M_rn v)), .ref (q 19), .int (M_placeThen (M_rn v)), .int (M_alonePlace (M_al v)), .int (M_aloneSteps (M_al v)), .int (M_aloneOut (M_al v)), .ref (q 20), .ref (q 21), .ref (q 22), .ref (q 23), .int (M_shotAlarm (M_ex v)), .int (M_drawn (M_ex v))]), ((q 1), aI K 700 (M_tape (M_tp v))), ((q 2), aI K 20 (M_number (M_cd v))), ((q 3), aZ K 5 (M_isTold (M_rd v))), ((q 4), aI K 80 (M_codeSort (M_cd v))), ((q 5), aI K 80 (M_codeA (M_cd v))), ((q 6), aI K 80 (M_codeB (M_cd v))), ((q 7), aI K 80 (M_codeC (M_cd v))), ((q 8), aI K 80 (M_codeName (M_cd v))), ((q 9), aI K 80 (M_codePlace (M_cd v))), ((q 10), aI K 80 (M_codeTo (M_cd v))), ((q 11), aI K 280 (M_labelName (M_cd v))), ((q 12), aI K 280 (M_labelAt (M_cd v))), ((q 13), aI K 64 (M_data (M_cd v))), ((q 14), aZ K 32 (M_hasData (M_rd v))), ((q 15), aI K 314 (M_s (M_rn v))), ((q 16), aI K 314 (M_aside (M_ex v))), ((q 17), aI K 314 (M_further (M_ex v))), ((q 18), aI K 314 (M_image (M_im v))), ((q 19), aI K 3 (M_sizeNow (M_rn v))), ((q 20), aI K 8 (M_aloneRegister (M_al v))), ((q 21), aI K 4 (M_aloneReal (M_al v))), ((q 22), aI K 32 (M_aloneMemory (M_al v))), ((q 23), aI K 999 (M_aloneOutput (M_al v)))]) (nn := 24) cx [.int (1 : Int32)] [] (m_M_wrong l D K q v (1 : Int32) hc13) rfl yv_X10_wrong wd_1493 ⟨rfl, rfl⟩ (by decide) (fr_s (j := 0) rfl rfl rfl (fr_s (j := 1) rfl rfl rfl (fr_s (j := 2) rfl rfl rfl (fr_s (j := 3) rfl rfl rfl (fr_s (j := 4) rfl rfl rfl (fr_s (j := 5) rfl rfl rfl (fr_s (j := 6) rfl rfl rfl (fr_s (j := 7) rfl rfl rfl (fr_s (j := 8) rfl rfl rfl (fr_s (j := 9) rfl rfl rfl (fr_s (j := 10) rfl rfl rfl (fr_s (j := 11) rfl rfl rfl (fr_s (j := 12) rfl rfl rfl (fr_s (j := 13) rfl rfl rfl (fr_s (j := 14) rfl rfl rfl (fr_s (j := 15) rfl rfl rfl (fr_s (j := 16) rfl rfl rfl (fr_s (j := 17) rfl rfl rfl (fr_s (j := 18) rfl rfl rfl (fr_s (j := 19) rfl rfl rfl (fr_s (j := 20) rfl rfl rfl (fr_s (j := 21) rfl rfl rfl (fr_s (j := 22) rfl rfl rfl (fr_s (j := 23) rfl rfl rfl (fr_n))))))))))))))))))))))))) rfl (by decide) 0 rfl rfl rfl (Nat.le_of_ble_eq_true rfl) dX10_numberAtHand_19 ?_
      refine r_goto (pc := 22) (tgt := 46) cx dX10_numberAtHand_22 (by decide) ?_
      refine r_loc (loc' := [(0, .ref (q 0)), (1, .int a1)]) [0, 1] rfl ?_
      exact hJ3 _ hf
  · replace hf := ifn h1 hf
    refine r_iload_n (pc := 7) cx dX10_numberAtHand_7 1 rfl ?_
    have hi := inj2 hf
    exact r_iret (pc := 8) cx hi.1 (by rw [← hi.2]; rfl) dX10_numberAtHand_8
theorem yv_X10_numberAtHand : YV yX10_numberAtHand cX10_numberAtHand 3 (some .int) 2 := ⟨⟨by decide +kernel, by decide +kernel, by decide +kernel⟩, wd_1516, wd_102, wd_1515, wd_42⟩
